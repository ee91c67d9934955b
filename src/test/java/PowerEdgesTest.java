/** The sentences of 'Writing and power' and of the promise 4 that name a boundary case. */
public final class PowerEdgesTest extends Check {
    private static final int[] NO_WRITES = {Integer.MIN_VALUE, -7, -5, -1, 201, Integer.MAX_VALUE};
    private static final String TEN = "+a9=0,+b9=0,+c9=0,+d9=0,+e9=0,+f9=0,+g9=0,+h9=0,+i9=0,+j9=0";

    public static void main(String[] args) {
        sentences(PowerEdgesTest.class);
    }

    // ---- Writing and power

    @Sentence("Writing and power: Cells are written one after the other")
    static void oneAfterTheOther() {
        int[] record = {1, 5, recordCheck(0, 5, 0)};
        for (int writes = 0; writes <= 3; writes++) {
            SettingsVault vault = ready("+a9=1");
            vault.fail(writes);
            due("set", vault.set(0, 5), writes);
            for (int i = 0; i < 3; i++) {
                due("cell " + i + " behind " + writes, vault.cell(0, 3 + i), i < writes ? record[i] : NONE);
            }
        }
    }

    @Sentence("Writing and power: each write is counted for its page")
    static void writesOfAPage() {
        SettingsVault vault = vault("+a9=1");
        due("none", vault.page(0, 0), 0);
        vault.factory(0);
        vault.set(0, 5);
        duePage("head and record", vault, 0, 6);
        duePage("nothing there", vault, 1, 0);
        vault.compact();
        duePage("what it was", vault, 0, 6);
        duePage("head and record there", vault, 1, 6);
        vault.fail(1);
        vault.set(0, 6);
        duePage("only what was written", vault, 1, 7);
        duePage("what it was then", vault, 0, 6);
    }

    @Sentence("Writing and power: To erase a page means that all its cells are erased")
    static void allCellsAreErased() {
        SettingsVault vault = ready("+a9=1");
        spoilAll(vault, 1, 77);
        vault.fail(0);
        vault.compact();
        due("by a compact", vault.page(1, 5), 0);
        vault.start();
        spoilAll(vault, 0, 77);
        spoilAll(vault, 1, 77);
        vault.fail(0);
        vault.factory(0);
        due("page 0 by a factory", vault.page(0, 5), 0);
        due("page 1 by a factory", vault.page(1, 5), 0);
    }

    @Sentence("Writing and power: it is counted as an erasure of the page, and takes no power"
        + " (so it happens ahead of a first write at which the power fails)")
    static void erasingTakesNoPower() {
        SettingsVault vault = ready("+a255=0", "a<9");
        writeRecords(vault, 15);
        vault.fail(0);
        due("a set on a full page", vault.set(0, 1), 0);
        duePage("its erasure", vault, 1, 0, 2);
        vault.start();
        vault.fail(0);
        due("compact", vault.compact(), 0);
        duePage("its erasure", vault, 1, 0, 3);
        vault.start();
        vault.fail(0);
        due("migrate", vault.migrate(1), 0);
        duePage("its erasure", vault, 1, 0, 4);
        vault.start();
        vault.fail(0);
        due("factory", vault.factory(0), 0);
        duePage("its erasure of page 0", vault, 0, 48, 2, 0, 0, 0, 0);
        duePage("its erasure of page 1", vault, 1, 0, 5, 0, 0, 0, 0);
        vault.start();
        vault.fail(3);
        due("just enough: erasing is no write", vault.factory(0), 3);
        due("on", vault.state(0), 1);
    }

    @Sentence("Writing and power: when so many cells have been written since, the power is off just ahead of the next write")
    static void offJustAheadOfTheNextWrite() {
        SettingsVault vault = ready("+a9=1");
        vault.fail(3);
        due("three writes", vault.set(0, 5), 3);
        dueStates("just enough power", vault, 0, 1);
        due("value", vault.get(0), 5);
        due("a set that writes nothing", vault.set(0, 5), 0);
        dueStates("still on", vault, 0, 1);
        due("the next write", vault.set(0, 6), 0);
        dueStates("off", vault, 0, 0);
        vault.start();
        vault.fail(2);
        due("two writes", vault.set(0, 6), 2);
        dueStates("off at the third", vault, 0, 0);
    }

    @Sentence("Writing and power: behind some writes: when so many cells have been written since")
    static void countedSinceItWasSet() {
        SettingsVault vault = ready("+a9=1");
        vault.fail(4);
        vault.set(0, 5);
        due("left", vault.state(9), 1);
        vault.fail(4);
        due("counted anew", vault.state(9), 4);
        due("three", vault.set(0, 6), 3);
        due("and one", vault.set(0, 7), 1);
        vault.start();
        vault.fail(1);
        vault.fail(NONE);
        due("not at all", vault.set(0, 7), 3);
    }

    @Sentence("Writing and power: this write and all that would come behind it (also erasing) do not happen")
    static void nothingBehindIt() {
        for (int writes = 0; writes <= 9; writes++) {
            SettingsVault vault = ready("+a9=1,+b9=1", "a<9");
            vault.set(0, 5);
            vault.set(1, 6);
            vault.fail(writes);
            due("compact behind " + writes, vault.compact(), writes);
            duePage("behind " + writes, vault, 1, writes, 2, writes == 9 ? 1 : 0, writes == 9 ? 2 : 0, 0, writes);
            due("the active page behind " + writes, vault.page(0, 0), 9);
        }
        SettingsVault vault = ready("+a9=1", "a<9");
        powerOff(vault);
        int erasures = vault.state(11);
        due("factory", vault.factory(0), NOT_POSSIBLE);
        due("compact", vault.compact(), NOT_POSSIBLE);
        due("migrate", vault.migrate(1), NOT_POSSIBLE);
        due("no erasure", vault.state(11), erasures);
        due("no erased page", vault.page(0, 5), 3);
    }

    @Sentence("Writing and power: While the power is off, the vault does nothing until it is started.")
    static void nothingWithoutPower() {
        SettingsVault vault = ready("+a9=1,+b9=1", "a<9");
        vault.set(0, 5);
        vault.fail(1);
        vault.set(0, 6);
        int[] before = look(vault);
        due("fail", vault.fail(5), NOT_POSSIBLE);
        due("get", vault.get(0), NOT_POSSIBLE);
        due("set", vault.set(0, 7), NOT_POSSIBLE);
        due("set to what it has", vault.set(0, 5), NOT_POSSIBLE);
        due("compact", vault.compact(), NOT_POSSIBLE);
        due("migrate", vault.migrate(1), NOT_POSSIBLE);
        due("factory", vault.factory(0), NOT_POSSIBLE);
        due("record", vault.record(0), NOT_POSSIBLE);
        due("ifMigrated", vault.ifMigrated(1, 0), NOT_POSSIBLE);
        due("ifFailed", vault.ifFailed(0, 7, 0, 0), NOT_POSSIBLE);
        dueUnchanged(vault, before);
        due("start", vault.start(), 0);
        due("get then", vault.get(0), 5);
        due("set then", vault.set(0, 7), 3);
    }

    @Sentence("Writing and power: To fill a page with some values in a version means: it is erased")
    static void fillingErases() {
        SettingsVault vault = ready("+a9=1", "a<9");
        spoilAll(vault, 1, 77);
        due("compact", vault.compact(), 3);
        duePage("nothing but the head", vault, 1, 3, 2, 1, 0, 0, 3);
        dueCells("behind the head", vault, 1, 3, NONE, NONE, NONE);
        spoilAll(vault, 0, 77);
        due("migrate", vault.migrate(1), 3);
        duePage("nothing but the head", vault, 0, 6, 2, 1, 0, 0, 3);
    }

    @Sentence("Writing and power: then, for each setting whose value is not its default")
    static void fillingLeavesDefaultsOut() {
        SettingsVault vault = ready(TEN);
        due("all at their defaults", vault.compact(), 3);
        for (int name = 0; name < 10; name++) {
            vault.set(name, 5);
            due("not at their defaults: " + (name + 1), vault.compact(), 3 * (name + 2));
        }
        for (int name = 9; name >= 0; name--) {
            vault.set(name, 0);
            due("its record", vault.record(name) > 0 ? 1 : 0, 1);
            due("still not at their defaults: " + name, vault.compact(), 3 * (name + 1));
            due("its record then", vault.record(name), NONE);
        }
    }

    @Sentence("Writing and power: in ascending order of the names, a record is written, from the cell 3 on")
    static void fillingInOrderOfNames() {
        SettingsVault vault = ready(TEN);
        for (int name = 9; name >= 0; name--) {
            vault.set(name, 9 - name);
        }
        due("all but j", vault.compact(), 30);
        for (int name = 0; name < 9; name++) {
            dueCells("record " + name, vault, 1, 3 + 3 * name, name + 1, 9 - name, recordCheck(name, 9 - name, 0));
            due("its place", vault.record(name), 3 + 3 * name);
        }
        due("behind them", vault.cell(1, 30), NONE);
        due("room", vault.state(4), 6);
    }

    @Sentence("Writing and power: then the cells 0, 1 and 2 of the head")
    static void fillingWritesTheHeadLast() {
        for (int writes = 6; writes <= 9; writes++) {
            SettingsVault vault = ready("+a9=1,+b9=1");
            vault.set(0, 5);
            vault.set(1, 6);
            vault.fail(writes);
            vault.compact();
            due("the last record", vault.cell(1, 8), recordCheck(1, 6, 0));
            due("cell 0 behind " + writes, vault.cell(1, 0), writes > 6 ? 200 : NONE);
            due("cell 1 behind " + writes, vault.cell(1, 1), writes > 7 ? 1 : NONE);
            due("cell 2 behind " + writes, vault.cell(1, 2), writes > 8 ? headCheck(0, 1) : NONE);
        }
    }

    @Sentence("Writing and power: with the sequence of the active page + 1 (mod 200)")
    static void sequenceOfAFilledPage() {
        int[][] rows = {{0, 1}, {1, 2}, {197, 198}, {198, 199}, {199, 0}};
        for (int[] row : rows) {
            SettingsVault vault = readyAt(row[0], "+a255=0", "a<255");
            due("compact behind " + row[0], vault.compact(), 3);
            due("state behind " + row[0], vault.state(3), row[1]);
            due("cell behind " + row[0], vault.cell(1, 1), row[1]);
            due("start behind " + row[0], vault.start(), 1);
            vault = readyAt(row[0], "+a255=0", "a<255");
            vault.migrate(1);
            due("migrated behind " + row[0], vault.state(3), row[1]);
            vault = readyAt(row[0], "+a255=0");
            writeRecords(vault, 15);
            vault.set(0, 1);
            due("set behind " + row[0], vault.state(3), row[1]);
        }
    }

    // ---- promise 4: fail

    @Sentence("4 fail: 0 to 200: behind so many writes")
    static void failValues() {
        for (int writes : new int[] {0, 1, 199, 200}) {
            SettingsVault vault = ready("+a9=1");
            due("fail " + writes, vault.fail(writes), 0);
            due("left", vault.state(9), writes);
            int written = 0;
            for (int i = 0; i < 150 && vault.state(0) == 1; i++) {
                written += vault.set(0, 2 + i % 2);
            }
            due("written", written, writes);
            due("off", vault.state(0), 0);
        }
    }

    @Sentence("4 fail: NONE for not at all")
    static void failNone() {
        SettingsVault vault = ready("+a9=1");
        vault.fail(0);
        vault.fail(NONE);
        due("left", vault.state(9), NONE);
        int written = 0;
        for (int i = 0; i < 150; i++) {
            written += vault.set(0, 2 + i % 2);
        }
        due("150 records, and the heads of 9 pages", written, 150 * 3 + 9 * 3);
        due("on", vault.state(0), 1);
    }

    @Sentence("4 fail: Returns 1 if it was set to fail before, 0 if not")
    static void failReturns() {
        SettingsVault vault = ready("+a9=1");
        due("not set in a new one", vault.fail(NONE), 0);
        due("not set by NONE", vault.fail(0), 0);
        due("set by 0", vault.fail(200), 1);
        due("set by 200", vault.fail(3), 1);
        vault.set(0, 5);
        due("set, with no write left", vault.fail(NONE), 1);
        due("not set then", vault.fail(0), 0);
        vault.start();
        due("not set behind a start", vault.fail(0), 0);
        vault.set(0, 6);
        vault.start();
        due("not set behind a failure", vault.fail(NONE), 0);
    }

    @Sentence("4 fail: BAD_VALUE if writes is out of range")
    static void failBadValue() {
        SettingsVault vault = ready("+a9=1");
        for (int writes : NO_WRITES) {
            due("fail " + writes, vault.fail(writes), BAD_VALUE);
        }
        due("0", vault.fail(0), 0);
        due("200", vault.fail(200), 1);
        due("NONE", vault.fail(NONE), 1);
    }

    @Sentence("4 fail: NOT_POSSIBLE if the power is off")
    static void failNotPossible() {
        SettingsVault vault = ready("+a9=1");
        powerOff(vault);
        due("fail 0", vault.fail(0), NOT_POSSIBLE);
        due("fail 200", vault.fail(200), NOT_POSSIBLE);
        due("fail NONE", vault.fail(NONE), NOT_POSSIBLE);
        vault.start();
        due("on", vault.fail(NONE), 0);
    }

    @Sentence("Conventions for 4 fail: the first one that applies is returned")
    static void failOrder() {
        SettingsVault vault = ready("+a9=1");
        powerOff(vault);
        due("201 while off", vault.fail(201), BAD_VALUE);
        due("-1 while off", vault.fail(-1), BAD_VALUE);
    }

    @Sentence("Conventions for 4 fail: A call that returns an error changes nothing.")
    static void failErrorsChangeNothing() {
        SettingsVault vault = ready("+a9=1");
        vault.fail(7);
        for (int writes : NO_WRITES) {
            vault.fail(writes);
            due("left", vault.state(9), 7);
        }
        vault.fail(0);
        vault.set(0, 5);
        vault.fail(5);
        vault.fail(NONE);
        due("still off", vault.state(0), 0);
        vault.start();
        due("not set", vault.fail(NONE), 0);
    }
}
