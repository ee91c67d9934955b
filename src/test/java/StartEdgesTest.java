/** The sentences of 'Starting' and of the promise 5 that name a boundary case. */
public final class StartEdgesTest extends Check {
    public static void main(String[] args) {
        sentences(StartEdgesTest.class);
    }

    /** The active page that is found if both heads are good, in the version 0 on page 0 and in 1 on page 1. */
    private static void dueActive(int sequence0, int sequence1, int active) {
        SettingsVault vault = vault("+a9=1", "a*2");
        spoilHead(vault, 0, 0, sequence0);
        spoilHead(vault, 1, 1, sequence1);
        String what = "sequences " + sequence0 + " and " + sequence1;
        due(what, vault.start(), active);
        dueStates(what, vault, 1, active, active, active == 0 ? sequence0 : sequence1);
        due(what + ", a", vault.get(0), active == 0 ? 1 : 2);
    }

    // ---- Starting

    @Sentence("Starting: When the vault is started, the power is on, and is not set to fail.")
    static void powerIsOn() {
        SettingsVault vault = ready("+a9=1");
        powerOff(vault);
        vault.start();
        dueStates("behind a failure", vault, 0, 1);
        due("not set to fail", vault.state(9), NONE);
        vault.fail(0);
        vault.start();
        due("not set to fail any more", vault.state(9), NONE);
        due("a write", vault.set(0, 5), 3);
        vault.fail(200);
        vault.start();
        due("nor behind 200 writes", vault.state(9), NONE);
    }

    @Sentence("Starting: The active page is the one with a good head")
    static void theOneWithAGoodHead() {
        for (int page = 0; page < 2; page++) {
            SettingsVault vault = vault("+a9=1", "a*2");
            spoilHead(vault, page, page, 199 * page);
            due("only page " + page, vault.start(), page);
            dueStates("only page " + page, vault, 1, page, page, 199 * page);
            spoilHead(vault, 1 - page, 0, 50);
            vault.spoil(1 - page, 2, NONE);
            due("the other's check is erased", vault.start(), page);
        }
    }

    @Sentence("Starting: if both have one, the page 1 if (its sequence - that of the page 0) mod 200 is from 1 to 100")
    static void pageOneIfAhead() {
        dueActive(0, 1, 1);
        dueActive(0, 2, 1);
        dueActive(0, 99, 1);
        dueActive(0, 100, 1);
        dueActive(98, 99, 1);
        dueActive(99, 199, 1);
        dueActive(198, 199, 1);
        dueActive(199, 0, 1);
        dueActive(199, 99, 1);
        dueActive(150, 50, 1);
        dueActive(100, 0, 1);
        dueActive(101, 0, 1);
    }

    @Sentence("Starting: otherwise the page 0")
    static void otherwisePageZero() {
        dueActive(0, 0, 0);
        dueActive(199, 199, 0);
        dueActive(0, 101, 0);
        dueActive(0, 199, 0);
        dueActive(1, 0, 0);
        dueActive(99, 0, 0);
        dueActive(98, 199, 0);
        dueActive(199, 100, 0);
        dueActive(150, 51, 0);
        dueActive(150, 149, 0);
    }

    @Sentence("Starting: Its records are read from the cell 3 on, as long as there is a record"
        + " and its first cell is not erased")
    static void recordsAreRead() {
        SettingsVault vault = ready("+a255=0");
        vault.start();
        dueStates("no record", vault, 4, 15, 0);
        for (int index = 3; index < 48; index += 3) {
            spoilRecord(vault, 0, index, 0, index, 0);
        }
        vault.start();
        dueStates("all 15", vault, 4, 0, 0);
        due("value of the last", vault.get(0), 45);
        due("its place", vault.record(0), 45);
        vault.spoil(0, 45, NONE);
        vault.start();
        dueStates("the last one's first cell erased", vault, 4, 1, 0);
        due("value of the last but one", vault.get(0), 42);
        vault.spoil(0, 24, NONE);
        vault.start();
        dueStates("a gap", vault, 4, 8, 0);
        due("value ahead of the gap", vault.get(0), 21);
        vault.spoil(0, 22, NONE);
        vault.spoil(0, 23, NONE);
        vault.start();
        dueStates("a record of its first cell alone is no gap", vault, 4, 8, 1);
        due("value ahead of it", vault.get(0), 18);
        vault.spoil(0, 3, NONE);
        vault.start();
        dueStates("the first one's first cell erased", vault, 4, 15, 0);
        due("default", vault.get(0), 0);
    }

    @Sentence("Starting: each good one gives its setting this value")
    static void goodOnesGiveValues() {
        SettingsVault vault = ready("+a9=1,+j255=1");
        spoilRecord(vault, 0, 3, 0, 9, 0);
        spoilRecord(vault, 0, 6, 9, 255, 0);
        spoilRecord(vault, 0, 9, 0, 0, 0);
        vault.start();
        due("the later one", vault.get(0), 0);
        due("its place", vault.record(0), 9);
        due("the only one", vault.get(9), 255);
        due("its place", vault.record(9), 6);
        spoilRecord(vault, 0, 45, 0, 5, 0);
        vault.start();
        due("none behind the end", vault.get(0), 0);
    }

    @Sentence("Starting: others are counted as bad")
    static void othersAreBad() {
        SettingsVault vault = ready("+a9=1");
        spoilRecord(vault, 0, 3, 0, 5, 0);
        spoilRecord(vault, 0, 6, 0, 10, 0);
        spoilRecord(vault, 0, 9, 1, 0, 0);
        spoilRecord(vault, 0, 12, 0, 6, 1);
        spoilRecord(vault, 0, 15, 0, 7, 0);
        vault.spoil(0, 17, NONE);
        vault.start();
        dueStates("four bad ones", vault, 4, 10, 4);
        due("they take nothing away", vault.get(0), 5);
        due("nor its place", vault.record(0), 3);
        for (int index = 3; index < 48; index += 3) {
            spoilThree(vault, 0, index, 255, 255, 255);
        }
        vault.start();
        dueStates("15 bad ones", vault, 4, 0, 15);
        vault.compact();
        vault.start();
        due("none", vault.state(5), 0);
    }

    @Sentence("Starting: The next record is written where the reading stopped"
        + " (also over cells behind it that were spoiled).")
    static void nextRecord() {
        SettingsVault vault = ready("+a9=1");
        vault.start();
        due("at once", vault.set(0, 5), 3);
        due("in the first place", vault.record(0), 3);
        spoilThree(vault, 0, 6, NONE, 66, 66);
        spoilRecord(vault, 0, 9, 0, 9, 0);
        vault.start();
        due("room", vault.state(4), 14);
        due("over spoiled cells", vault.set(0, 6), 3);
        dueCells("over them", vault, 0, 6, 1, 6, recordCheck(0, 6, 0), 1, 9, recordCheck(0, 9, 0), NONE);
        due("its place", vault.record(0), 6);
        due("and again", vault.set(0, 7), 3);
        dueCells("over the next", vault, 0, 9, 1, 7, recordCheck(0, 7, 0), NONE);
        spoilThree(vault, 0, 6, 255, NONE, NONE);
        vault.start();
        vault.set(0, 8);
        due("behind a bad one", vault.record(0), 12);
    }

    @Sentence("Starting: Settings without a good record have their defaults.")
    static void defaultsWithoutRecords() {
        SettingsVault vault = ready("+a9=0,+b9=9,+c9=5");
        spoilRecord(vault, 0, 3, 2, 1, 0);
        spoilRecord(vault, 0, 6, 1, 10, 0);
        vault.start();
        due("a", vault.get(0), 0);
        due("b, with a bad one", vault.get(1), 9);
        due("c, with a good one", vault.get(2), 1);
        due("no place of a", vault.record(0), NONE);
        due("no place of b", vault.record(1), NONE);
        due("changed", vault.state(7), 1);
        vault.set(0, 5);
        vault.spoil(0, 11, recordCheck(0, 5, 0) + 1);
        vault.start();
        due("a, with a spoiled one", vault.get(0), 0);
    }

    @Sentence("Starting: If no page has a good head, there is no active page, and no settings.")
    static void noGoodHead() {
        SettingsVault vault = ready("+a9=1");
        vault.set(0, 5);
        vault.compact();
        vault.spoil(0, 0, 199);
        vault.spoil(1, 1, 200);
        due("start", vault.start(), NONE);
        dueStates("nothing", vault, 0, 1, NONE, NONE, NONE, 0, 0, 0, 0, 1, NONE);
        due("get", vault.get(0), NO_SUCH);
        due("set", vault.set(0, 5), NO_SUCH);
        due("record", vault.record(0), NO_SUCH);
        due("compact", vault.compact(), NOT_POSSIBLE);
        due("cells stay", vault.page(1, 5), 6);
    }

    // ---- promise 5: start

    @Sentence("5 start: Starts the vault, whether the power is on or off.")
    static void startOnOrOff() {
        SettingsVault vault = ready("+a9=1");
        spoilRecord(vault, 0, 3, 0, 5, 0);
        due("on", vault.start(), 0);
        due("value", vault.get(0), 5);
        powerOff(vault);
        spoilRecord(vault, 0, 6, 0, 6, 0);
        due("off", vault.start(), 0);
        due("value then", vault.get(0), 6);
        due("again", vault.start(), 0);
        due("the same", vault.get(0), 6);
        dueStates("nothing was written by it", vault, 10, 3, 3);
    }

    @Sentence("5 start: Returns the active page then, NONE if there is none.")
    static void startReturns() {
        due("a new one", new SettingsVault().start(), NONE);
        SettingsVault vault = ready("+a9=1");
        due("page 0", vault.start(), 0);
        vault.compact();
        due("page 1", vault.start(), 1);
        vault.spoil(1, 0, NONE);
        due("the other page", vault.start(), 0);
        vault.spoil(0, 0, NONE);
        due("none", vault.start(), NONE);
        vault.spoil(1, 0, 200);
        due("page 1 anew", vault.start(), 1);
    }
}
