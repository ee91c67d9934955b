/** The sentences of 'Conventions' and of the promises 1, 14 and 15 that name a boundary case. */
public final class StateEdgesTest extends Check {
    private static final int[] NO_NAMES = {Integer.MIN_VALUE, NONE, -1, 1, 9, 10, Integer.MAX_VALUE};
    private static final int[] NO_WHATS = {Integer.MIN_VALUE, NONE, -1, 13, Integer.MAX_VALUE};
    private static final String TEN = "+a9=0,+b9=1,+c9=2,+d9=3,+e9=4,+f9=5,+g9=6,+h9=7,+i9=8,+j9=9";

    public static void main(String[] args) {
        sentences(StateEdgesTest.class);
    }

    // ---- promise 1: a new object

    @Sentence("1 A new object: Creates a vault without layouts")
    static void newWithoutLayouts() {
        SettingsVault vault = new SettingsVault();
        due("versions", vault.state(8), 0);
        for (int version = -1; version < 7; version++) {
            due("layout " + version, vault.layout(version, 0, 0), NO_SUCH);
            due("factory " + version, vault.factory(version), NO_SUCH);
        }
        due("the first one is 0", define(vault, "+a9=1"), 0);
    }

    @Sentence("1 A new object: with two pages that are erased")
    static void newPagesAreErased() {
        SettingsVault vault = new SettingsVault();
        for (int page = 0; page < 2; page++) {
            for (int index = 0; index < 48; index++) {
                due("cell " + index, vault.cell(page, index), NONE);
            }
            duePage("new", vault, page, 0, 0, 0, 0, 0, 0);
        }
    }

    @Sentence("1 A new object: the power is on")
    static void newPowerIsOn() {
        SettingsVault vault = new SettingsVault();
        due("power", vault.state(0), 1);
        due("not set to fail", vault.state(9), NONE);
        due("fail", vault.fail(0), 0);
    }

    @Sentence("1 A new object: there is no active page")
    static void newHasNoActivePage() {
        SettingsVault vault = new SettingsVault();
        dueStates("new", vault, 1, NONE, NONE, NONE, 0, 0, 0, 0);
        due("get", vault.get(0), NO_SUCH);
        due("compact", vault.compact(), NOT_POSSIBLE);
        due("keep", vault.keep(0), NONE);
        due("start", vault.start(), NONE);
    }

    @Sentence("1 A new object: [nothing else: an empty pad, no images]")
    static void newHasNothingElse() {
        SettingsVault vault = new SettingsVault();
        due("pad", vault.state(12), 0);
        due("fault", vault.fault(), 0);
        due("image 0", vault.back(0), NOT_POSSIBLE);
        due("image 1", vault.back(1), NOT_POSSIBLE);
        vault.put(97);
        due("objects share nothing", new SettingsVault().state(12), 0);
    }

    // ---- Conventions

    @Sentence("Conventions: NO_SUCH (-1), BAD_VALUE (-2), BAD_TEXT (-3), TOO_MANY (-4) and NOT_POSSIBLE (-5)")
    static void errorCodes() {
        int[] codes = {NO_SUCH, BAD_VALUE, BAD_TEXT, TOO_MANY, NOT_POSSIBLE};
        dueRow("codes", codes, -1, -2, -3, -4, -5);
    }

    @Sentence("Conventions: NONE (-6) is not an error; it is returned only if no error applies.")
    static void noneIsNoError() {
        SettingsVault vault = ready("+a9=1");
        due("NONE", NONE, -6);
        due("an erased cell", vault.cell(1, 0), -6);
        due("an erased cell, spoiled as erased", vault.spoil(1, 0, NONE), -6);
        due("no cell", vault.cell(1, 48), NO_SUCH);
        due("no record", vault.record(0), -6);
        due("no setting", vault.record(1), NO_SUCH);
        due("no name before", vault.layout(0, 0, 2), -6);
        due("no setting either", vault.layout(0, 1, 2), NO_SUCH);
        due("not set to fail", vault.state(9), -6);
        due("fail for not at all", vault.fail(NONE), 0);
        powerOff(vault);
        due("off", vault.record(0), NOT_POSSIBLE);
    }

    @Sentence("Conventions: Everything is numbered from 0.")
    static void numberedFromZero() {
        SettingsVault vault = new SettingsVault();
        due("the first version", define(vault, "+a9=1"), 0);
        due("the first name", vault.layout(0, 0, 0), 9);
        due("factory on the first page", vault.factory(0), 3);
        due("the first page", vault.state(1), 0);
        due("the first cell", vault.cell(0, 0), 200);
        due("the first image", vault.keep(0), 0);
        pad(vault, "!");
        due("the first character", vault.fault(), 0);
    }

    @Sentence("What it is: An object is used for at most 512 calls after it has been made")
    static void usedFor512Calls() {
        SettingsVault vault = new SettingsVault();
        vault.put(code("+a255=0"));
        vault.define();
        vault.factory(0);
        int written = 3;
        // A page takes 15 of these records, and each later one 14, behind the one that it is filled with.
        for (int i = 0; i < 506; i++) {
            int cells = i >= 15 && i % 15 == 0 ? 6 : 3;
            written += cells;
            due("call " + (i + 4), vault.set(0, 1 + i % 255), cells);
        }
        due("call 510", vault.get(0), 1 + 505 % 255);
        due("call 511", vault.state(10), written);
        due("call 512", vault.state(3), 33);
    }

    // ---- promise 14: state

    @Sentence("14 state: 0 whether the power is on (1 or 0)")
    static void statePower() {
        SettingsVault vault = ready("+a9=1");
        due("on", vault.state(0), 1);
        vault.fail(0);
        due("set to fail", vault.state(0), 1);
        vault.set(0, 5);
        due("off", vault.state(0), 0);
        vault.start();
        due("on again", vault.state(0), 1);
    }

    @Sentence("14 state: 1 the active page, 2 its version, 3 its sequence (1 to 3: NONE if there is none)")
    static void stateActivePage() {
        SettingsVault vault = vault("+a9=1", "a*2", "a*2", "a*2", "a*2", "a*2");
        dueStates("none", vault, 1, NONE, NONE, NONE);
        vault.factory(0);
        dueStates("the first version", vault, 1, 0, 0, 0);
        vault.migrate(5);
        dueStates("the last version", vault, 1, 1, 5, 1);
        spoilHead(vault, 1, 5, 199);
        vault.start();
        dueStates("the last sequence", vault, 1, 0, 0, 0);
        vault.spoil(0, 0, NONE);
        vault.start();
        dueStates("the last sequence alone", vault, 1, 1, 5, 199);
        vault.spoil(1, 0, NONE);
        vault.start();
        dueStates("none then", vault, 1, NONE, NONE, NONE);
    }

    @Sentence("14 state: 4 the records that still have room in it (0 if there is none)")
    static void stateRoom() {
        SettingsVault vault = vault("+a255=0");
        due("no active page", vault.state(4), 0);
        vault.factory(0);
        for (int i = 0; i < 15; i++) {
            due("room", vault.state(4), 15 - i);
            vault.set(0, i + 1);
        }
        due("full", vault.state(4), 0);
        vault.set(0, 99);
        due("behind a fill", vault.state(4), 14);
        vault.spoil(0, 0, NONE);
        vault.spoil(1, 0, NONE);
        vault.start();
        due("no active page then", vault.state(4), 0);
    }

    @Sentence("14 state: 5 the bad records that were read in the latest start")
    static void stateBadRecords() {
        SettingsVault vault = ready("+a9=1");
        due("no start", vault.state(5), 0);
        spoilRecord(vault, 0, 3, 0, 10, 0);
        due("not yet read", vault.state(5), 0);
        vault.start();
        due("one", vault.state(5), 1);
        vault.set(0, 5);
        vault.compact();
        due("behind a fill", vault.state(5), 1);
        vault.factory(0);
        due("behind a factory", vault.state(5), 1);
        vault.start();
        due("none in the latest", vault.state(5), 0);
        for (int index = 3; index < 48; index += 3) {
            vault.spoil(0, index, 99);
        }
        vault.start();
        due("15", vault.state(5), 15);
        vault.spoil(0, 0, NONE);
        vault.start();
        due("nothing was read", vault.state(5), 0);
    }

    @Sentence("14 state: 6 the settings (0 without an active page)")
    static void stateSettings() {
        SettingsVault vault = vault("+a9=1,-a", TEN, "-j");
        due("no active page", vault.state(6), 0);
        vault.factory(0);
        due("a version without settings", vault.state(6), 0);
        vault.migrate(1);
        due("all ten", vault.state(6), 10);
        vault.migrate(2);
        due("nine", vault.state(6), 9);
        vault.spoil(0, 0, NONE);
        vault.spoil(1, 0, NONE);
        vault.start();
        due("no active page then", vault.state(6), 0);
    }

    @Sentence("14 state: 7 those whose value is not their default")
    static void stateChanged() {
        SettingsVault vault = vault(TEN);
        due("no active page", vault.state(7), 0);
        vault.factory(0);
        due("all at their defaults", vault.state(7), 0);
        for (int name = 0; name < 10; name++) {
            vault.set(name, 9 - name);
            due("changed", vault.state(7), name + 1);
        }
        vault.set(9, 9);
        due("back to its default, by a record", vault.state(7), 9);
        vault.start();
        due("as it is read", vault.state(7), 9);
        vault.factory(0);
        due("all at their defaults then", vault.state(7), 0);
    }

    @Sentence("14 state: 8 the versions")
    static void stateVersions() {
        SettingsVault vault = new SettingsVault();
        for (int version = 0; version < 6; version++) {
            due("versions", vault.state(8), version);
            define(vault, version == 0 ? "+a9=1" : "a<8");
        }
        due("6", vault.state(8), 6);
        define(vault, "a<7");
        due("still 6", vault.state(8), 6);
    }

    @Sentence("14 state: 9 the writes until the power fails (NONE if it is not set to fail; also while it is off)")
    static void stateWritesLeft() {
        SettingsVault vault = ready("+a9=1");
        due("not set", vault.state(9), NONE);
        vault.fail(200);
        due("200", vault.state(9), 200);
        vault.fail(3);
        due("3", vault.state(9), 3);
        vault.set(0, 5);
        due("0", vault.state(9), 0);
        vault.set(0, 6);
        due("off", vault.state(9), NONE);
        vault.start();
        due("started", vault.state(9), NONE);
    }

    @Sentence("14 state: 10 all writes")
    static void stateWrites() {
        SettingsVault vault = ready("+a9=1");
        due("a head", vault.state(10), 3);
        vault.set(0, 5);
        vault.compact();
        due("of both pages", vault.state(10), 12);
        due("page 0", vault.page(0, 0), 6);
        due("page 1", vault.page(1, 0), 6);
        vault.fail(1);
        vault.set(0, 6);
        due("one of three", vault.state(10), 13);
    }

    @Sentence("14 state: 11 all erasures")
    static void stateErasures() {
        SettingsVault vault = vault("+a9=1");
        due("none", vault.state(11), 0);
        vault.factory(0);
        due("both pages", vault.state(11), 2);
        vault.compact();
        due("page 1", vault.state(11), 3);
        vault.fail(0);
        vault.compact();
        due("page 0, ahead of a failure", vault.state(11), 4);
    }

    @Sentence("14 state: 12 the length of the pad")
    static void statePad() {
        SettingsVault vault = new SettingsVault();
        due("empty", vault.state(12), 0);
        vault.put(97);
        due("1", vault.state(12), 1);
        pad(vault, "a<1,".repeat(20));
        due("80", vault.state(12), 80);
        vault.put(97);
        due("still 80", vault.state(12), 80);
        vault.wipe();
        due("empty then", vault.state(12), 0);
    }

    @Sentence("14 state: BAD_VALUE if what is out of range")
    static void stateBadWhat() {
        SettingsVault vault = ready("+a9=1");
        for (int what : NO_WHATS) {
            due("what " + what, vault.state(what), BAD_VALUE);
        }
        due("the first", vault.state(0), 1);
        due("the last", vault.state(12), 0);
    }

    @Sentence("Conventions for 14 state: A call that returns an error changes nothing.")
    static void stateErrorsChangeNothing() {
        SettingsVault vault = ready("+a9=1");
        int[] before = look(vault);
        for (int what : NO_WHATS) {
            due("bad what", vault.state(what), BAD_VALUE);
        }
        dueUnchanged(vault, before);
    }

    // ---- promise 15: record

    @Sentence("15 record: as it was when the value was read or written"
        + " (it stays, like the value, when cells are spoiled)")
    static void recordStays() {
        SettingsVault vault = ready("+a9=1,+b9=1");
        vault.set(0, 5);
        spoilRecord(vault, 0, 6, 1, 6, 0);
        due("not yet read", vault.record(1), NONE);
        vault.start();
        vault.set(0, 7);
        spoilAll(vault, 0, NONE);
        due("as written", vault.record(0), 9);
        due("as read", vault.record(1), 6);
        due("value as written", vault.get(0), 7);
        due("value as read", vault.get(1), 6);
    }

    @Sentence("15 record: Returns the index of the cell of the active page with the first cell of the record"
        + " from which it was read, or with which it was written")
    static void recordReturns() {
        SettingsVault vault = ready("+a200=0");
        for (int i = 0; i < 15; i++) {
            vault.set(0, i + 1);
            due("written " + i, vault.record(0), 3 + 3 * i);
            vault.start();
            due("read " + i, vault.record(0), 3 + 3 * i);
        }
        vault.set(0, 15);
        due("set to what it has", vault.record(0), 45);
        vault.fail(3);
        vault.set(0, 99);
        vault.start();
        due("behind a failure", vault.record(0), 45);
        vault.set(0, 99);
        due("filled in", vault.record(0), 3);
        vault.set(0, 0);
        due("its default was written", vault.record(0), 6);
    }

    @Sentence("15 record: NOT_POSSIBLE if the power is off")
    static void recordNotPossible() {
        SettingsVault vault = ready("+a9=1");
        vault.set(0, 5);
        powerOff(vault);
        due("off", vault.record(0), NOT_POSSIBLE);
        vault.start();
        due("on", vault.record(0), 3);
    }

    @Sentence("15 record: NO_SUCH if there is no active page")
    static void recordNoPage() {
        SettingsVault vault = vault("+a9=1");
        due("ahead of the factory", vault.record(0), NO_SUCH);
        vault.factory(0);
        due("behind it", vault.record(0), NONE);
    }

    @Sentence("15 record: or no such setting")
    static void recordNoSetting() {
        SettingsVault vault = ready("+a9=1", "a>b");
        for (int name : NO_NAMES) {
            due("name " + name, vault.record(name), NO_SUCH);
        }
        vault.migrate(1);
        due("a of another version", vault.record(0), NO_SUCH);
        due("b of this one", vault.record(1), NONE);
    }

    @Sentence("15 record: NONE if there was no such record (it has its default)")
    static void recordOfADefault() {
        SettingsVault vault = ready("+a9=1,+b9=1");
        due("factory", vault.record(0), NONE);
        vault.set(0, 5);
        due("the other", vault.record(1), NONE);
        vault.set(0, 1);
        due("a record with the default", vault.record(0), 6);
        vault.compact();
        due("filled without it", vault.record(0), NONE);
        vault.set(0, 5);
        vault.spoil(1, 5, NONE);
        vault.start();
        due("a bad one", vault.record(0), NONE);
        vault.set(0, 5);
        vault.factory(0);
        due("factory then", vault.record(0), NONE);
    }

    @Sentence("Conventions for 15 record: the first one that applies is returned")
    static void recordOrder() {
        SettingsVault vault = ready("+a9=1");
        powerOff(vault);
        due("off ahead of no setting", vault.record(1), NOT_POSSIBLE);
        vault = vault("+a9=1");
        powerOff(vault);
        due("off ahead of no active page", vault.record(0), NOT_POSSIBLE);
    }

    @Sentence("Conventions for 15 record: A call that returns an error changes nothing.")
    static void recordErrorsChangeNothing() {
        SettingsVault vault = ready("+a9=1");
        vault.set(0, 5);
        int[] before = look(vault);
        for (int name : NO_NAMES) {
            due("no setting", vault.record(name), NO_SUCH);
        }
        dueUnchanged(vault, before);
    }
}
