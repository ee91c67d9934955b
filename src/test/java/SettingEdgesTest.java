/** The sentences of 'Settings' and of the promises 6 to 10 that name a boundary case. */
public final class SettingEdgesTest extends Check {
    private static final int[] NO_NAMES = {Integer.MIN_VALUE, NONE, -1, 2, 9, 10, Integer.MAX_VALUE};
    private static final int[] NO_VERSIONS = {Integer.MIN_VALUE, NONE, -1, 2, 5, 6, Integer.MAX_VALUE};

    public static void main(String[] args) {
        sentences(SettingEdgesTest.class);
    }

    /** A vault with a full page 0; a (by default 0) has the value 115, and b (by default 1) has 7 if it is changed. */
    private static SettingsVault full(boolean changed) {
        SettingsVault vault = ready("+a200=0,+b9=1", "a<50,b>c");
        if (changed) {
            due("b", vault.set(1, 7), 3);
        }
        for (int i = changed ? 2 : 1; i <= 15; i++) {
            due("record " + i, vault.set(0, 100 + i), 3);
        }
        due("no room", vault.state(4), 0);
        return vault;
    }

    /** Turned off by a failure, the vault has of its active page what it had before. */
    private static void dueAsBefore(String what, SettingsVault vault, int active, int version, int sequence, int room,
            int changed) {
        due(what + ": power", vault.state(0), 0);
        dueStates(what, vault, 1, active, version, sequence, room);
        dueStates(what, vault, 6, 2, changed);
    }

    // ---- Settings

    @Sentence("Settings: The vault has the version and the sequence of its active page as they were read or written")
    static void versionAndSequenceStay() {
        SettingsVault vault = readyAt(198, "+a9=1", "a*2");
        spoilHead(vault, 0, 1, 50);
        dueStates("as read", vault, 1, 0, 0, 198);
        due("the greatest value of version 0", vault.set(0, 10), BAD_VALUE);
        due("compact", vault.compact(), 3);
        dueStates("as written", vault, 1, 1, 0, 199);
        spoilHead(vault, 1, 1, 7);
        vault.set(0, 5);
        due("the check of version 0", vault.cell(1, 5), recordCheck(0, 5, 0));
        due("migrate", vault.migrate(1), 6);
        dueStates("as written then", vault, 1, 0, 1, 0);
        spoilAll(vault, 0, NONE);
        dueStates("still", vault, 1, 0, 1, 0);
    }

    @Sentence("Settings: and the values of its settings as they were read or set since")
    static void valuesStay() {
        SettingsVault vault = ready("+a9=1,+b9=2,+c9=3");
        spoilRecord(vault, 0, 3, 0, 5, 0);
        vault.start();
        vault.set(1, 6);
        spoilRecord(vault, 0, 3, 0, 7, 0);
        spoilRecord(vault, 0, 6, 1, 8, 0);
        spoilRecord(vault, 0, 9, 2, 9, 0);
        due("as read", vault.get(0), 5);
        due("as set", vault.get(1), 6);
        due("the default", vault.get(2), 3);
        due("compact", vault.compact(), 9);
        dueCells("as they were", vault, 1, 3, 1, 5, recordCheck(0, 5, 0), 2, 6, recordCheck(1, 6, 0), NONE);
    }

    @Sentence("Settings: Setting a value writes a record behind the others of the active page")
    static void recordBehindTheOthers() {
        SettingsVault vault = ready("+a255=0,+b9=1");
        for (int i = 0; i < 15; i++) {
            due("cells of " + i, vault.set(0, 200 + i), 3);
            dueCells("record " + i, vault, 0, 3 + 3 * i, 1, 200 + i, recordCheck(0, 200 + i, 0));
            due("place of " + i, vault.record(0), 3 + 3 * i);
        }
        due("still page 0", vault.state(1), 0);
        due("full", vault.page(0, 5), 48);
        vault.compact();
        due("behind the one that was filled in", vault.set(1, 0), 3);
        dueCells("page 1", vault, 1, 6, 2, 0, recordCheck(1, 0, 0), NONE);
    }

    @Sentence("Settings: if there is no room for a record, the other page is filled with all values,"
        + " the new one among them, and is the active page then")
    static void noRoomForARecord() {
        SettingsVault vault = full(true);
        due("set on a full page", vault.set(0, 99), 9);
        dueStates("then", vault, 1, 1, 0, 1, 13);
        dueCells("page 1", vault, 1, 0, 200, 1, headCheck(0, 1), 1, 99, recordCheck(0, 99, 0),
            2, 7, recordCheck(1, 7, 0), NONE);
        due("a", vault.get(0), 99);
        due("b", vault.get(1), 7);
        due("the full page stays", vault.page(0, 5), 48);
        due("found by a start", vault.start(), 1);
        due("a then", vault.get(0), 99);
        vault = full(true);
        due("a goes to its default", vault.set(0, 0), 6);
        due("it has no record", vault.record(0), NONE);
        due("b has", vault.record(1), 3);
        vault = full(false);
        due("all go to their defaults", vault.set(0, 0), 3);
        dueStates("then", vault, 1, 1, 0, 1, 15);
        due("nothing but a head", vault.page(1, 5), 3);
        vault = full(false);
        due("the other setting", vault.set(1, 9), 9);
        due("a", vault.get(0), 115);
        due("b", vault.get(1), 9);
    }

    @Sentence("Settings: If the power fails in this [a record], the active page, its version, sequence and records,"
        + " and the values are those that were there before it, until the vault is started.")
    static void failureInARecord() {
        for (int writes = 0; writes <= 3; writes++) {
            SettingsVault vault = ready("+a9=1,+b9=1");
            vault.set(0, 5);
            vault.fail(writes);
            due("set", vault.set(1, 6), writes);
            if (writes < 3) {
                dueAsBefore("behind " + writes, vault, 0, 0, 0, 14, 1);
            } else {
                dueStates("behind 3", vault, 0, 1, 0, 0, 0, 13);
            }
            due("start", vault.start(), 0);
            dueStates("found behind " + writes, vault, 4, writes == 0 ? 14 : 13, writes % 3 == 0 ? 0 : 1);
            due("a", vault.get(0), 5);
            due("b", vault.get(1), writes < 3 ? 1 : 6);
            due("its place", vault.record(1), writes < 3 ? NONE : 6);
        }
    }

    @Sentence("Settings: If the power fails in this [filling the other page], the active page, its version, sequence"
        + " and records, and the values are those that were there before it, until the vault is started.")
    static void failureInFilling() {
        for (int writes = 0; writes <= 9; writes++) {
            SettingsVault vault = full(true);
            vault.fail(writes);
            due("set", vault.set(0, 99), writes);
            if (writes < 9) {
                dueAsBefore("behind " + writes, vault, 0, 0, 0, 0, 2);
            } else {
                dueStates("behind 9", vault, 0, 1, 1, 0, 1, 13);
            }
            due("start behind " + writes, vault.start(), writes < 9 ? 0 : 1);
            due("a", vault.get(0), writes < 9 ? 115 : 99);
            due("its place", vault.record(0), writes < 9 ? 45 : 3);
            due("b", vault.get(1), 7);
            due("room", vault.state(4), writes < 9 ? 0 : 13);
        }
    }

    @Sentence("Settings: or in anything below [migrating], the active page, its version, sequence and records,"
        + " and the values are those that were there before it, until the vault is started.")
    static void failureInMigrating() {
        for (int writes = 0; writes <= 9; writes++) {
            SettingsVault vault = ready("+a9=1,+b9=1", "a*3,b>c");
            vault.set(0, 5);
            vault.set(1, 6);
            vault.fail(writes);
            due("migrate", vault.migrate(1), writes);
            boolean off = writes < 9;
            if (off) {
                dueAsBefore("behind " + writes, vault, 0, 0, 0, 13, 2);
            } else {
                dueStates("behind 9", vault, 0, 1, 1, 1, 1, 13);
            }
            due("start behind " + writes, vault.start(), off ? 0 : 1);
            due("version", vault.state(2), off ? 0 : 1);
            due("a", vault.get(0), off ? 5 : 15);
            due("b", vault.get(1), off ? 6 : NO_SUCH);
            due("c", vault.get(2), off ? NO_SUCH : 6);
        }
    }

    @Sentence("Settings: or in anything below [compacting], the active page, its version, sequence and records,"
        + " and the values are those that were there before it, until the vault is started.")
    static void failureInCompacting() {
        for (int writes = 0; writes <= 3; writes++) {
            SettingsVault vault = readyAt(199, "+a9=1,+b9=1");
            vault.set(0, 5);
            vault.set(0, 1);
            vault.fail(writes);
            due("compact", vault.compact(), writes);
            boolean off = writes < 3;
            if (off) {
                dueAsBefore("behind " + writes, vault, 0, 0, 199, 13, 0);
            } else {
                dueStates("behind 3", vault, 0, 1, 1, 0, 0, 15);
            }
            due("start behind " + writes, vault.start(), off ? 0 : 1);
            due("its place", vault.record(0), off ? 6 : NONE);
            due("a", vault.get(0), 1);
        }
    }

    @Sentence("Settings: or in anything below [factory], the active page, its version, sequence and records,"
        + " and the values are those that were there before it, until the vault is started.")
    static void failureInFactory() {
        for (int writes = 0; writes <= 3; writes++) {
            SettingsVault vault = ready("+a9=1,+b9=1", "a*2");
            vault.set(0, 5);
            vault.compact();
            vault.fail(writes);
            due("factory", vault.factory(1), writes);
            boolean off = writes < 3;
            if (off) {
                dueAsBefore("behind " + writes, vault, 1, 0, 1, 14, 1);
            } else {
                dueStates("behind 3", vault, 0, 1, 0, 1, 0, 15);
            }
            due("cells of page 0", vault.page(0, 5), writes);
            due("cells of page 1", vault.page(1, 5), 0);
            due("start behind " + writes, vault.start(), off ? NONE : 0);
            due("a", vault.get(0), off ? NO_SUCH : 2);
        }
        SettingsVault vault = vault("+a9=1");
        powerOff(vault);
        dueStates("without an active page", vault, 0, 0, NONE, NONE, NONE, 0);
        due("start", vault.start(), NONE);
    }

    @Sentence("Settings: Migrating to a later version fills the other page with the migrated values in that version"
        + " (from version to version), and it is the active page then.")
    static void migratingFillsTheOtherPage() {
        SettingsVault vault = ready("+a255=10,+b9=1,+c9=2", "a*2,b>d", "a/2,-c,+c9=0", "c<5", "+e7=7", "a>b");
        vault.set(0, 200);
        vault.set(1, 5);
        vault.set(2, 9);
        due("to the last version", vault.migrate(5), 9);
        dueCells("page 1", vault, 1, 0, 205, 1, headCheck(5, 1), 2, 127, recordCheck(1, 127, 5),
            4, 5, recordCheck(3, 5, 5), NONE);
        dueStates("then", vault, 1, 1, 5, 1, 13);
        dueStates("then", vault, 6, 4, 2);
        due("b", vault.get(1), 127);
        due("c", vault.get(2), 0);
        due("d", vault.get(3), 5);
        due("e", vault.get(4), 7);
        due("no a", vault.get(0), NO_SUCH);
        due("found by a start", vault.start(), 1);
        due("page 0 stays", vault.page(0, 3), 3);
    }

    @Sentence("Settings: The return to the factory's state in a version erases both pages, writes the head of the page 0"
        + " with the sequence 0, and it is the active page then, with all settings at their defaults.")
    static void factoryState() {
        for (int active = 0; active < 2; active++) {
            SettingsVault vault = vault("+a9=1,+b9=2", "a*2");
            spoilHead(vault, active, 1, 150);
            spoilRecord(vault, active, 3, 0, 5, 1);
            due("start", vault.start(), active);
            due("factory", vault.factory(0), 3);
            duePage("page 0", vault, 0, 3, 1, 1, 0, 0, 3);
            duePage("page 1", vault, 1, 0, 1, 0, 0, 0, 0);
            dueCells("head", vault, 0, 0, 200, 0, 99, NONE);
            dueStates("then", vault, 1, 0, 0, 0, 15);
            dueStates("then", vault, 6, 2, 0);
            due("a", vault.get(0), 1);
            due("its place", vault.record(0), NONE);
            due("the next record", vault.set(0, 5), 3);
            due("its place then", vault.record(0), 3);
        }
    }

    // ---- promise 6: get

    @Sentence("6 get: Returns the value of a setting.")
    static void getReturns() {
        SettingsVault vault = ready("+a255=255,+j255=0");
        due("the first name's greatest default", vault.get(0), 255);
        due("the last name's least default", vault.get(9), 0);
        vault.set(0, 0);
        vault.set(9, 255);
        due("0", vault.get(0), 0);
        due("255", vault.get(9), 255);
    }

    @Sentence("6 get: NOT_POSSIBLE if the power is off")
    static void getNotPossible() {
        SettingsVault vault = ready("+a9=1");
        powerOff(vault);
        due("off", vault.get(0), NOT_POSSIBLE);
        vault.start();
        due("on", vault.get(0), 1);
    }

    @Sentence("6 get: NO_SUCH if there is no active page")
    static void getNoPage() {
        SettingsVault vault = vault("+a9=1");
        due("ahead of the factory", vault.get(0), NO_SUCH);
        vault.factory(0);
        due("behind it", vault.get(0), 1);
    }

    @Sentence("6 get: or no such setting")
    static void getNoSetting() {
        SettingsVault vault = ready("+a9=1,+b9=1", "b>c");
        for (int name : NO_NAMES) {
            due("name " + name, vault.get(name), NO_SUCH);
        }
        vault.migrate(1);
        due("b of another version", vault.get(1), NO_SUCH);
        due("c of this one", vault.get(2), 1);
    }

    @Sentence("Conventions for 6 get: the first one that applies is returned")
    static void getOrder() {
        SettingsVault vault = ready("+a9=1");
        powerOff(vault);
        due("off ahead of no setting", vault.get(1), NOT_POSSIBLE);
        due("off ahead of no name", vault.get(10), NOT_POSSIBLE);
        vault = vault("+a9=1");
        powerOff(vault);
        due("off ahead of no active page", vault.get(0), NOT_POSSIBLE);
    }

    @Sentence("Conventions for 6 get: A call that returns an error changes nothing.")
    static void getErrorsChangeNothing() {
        SettingsVault vault = ready("+a9=1,+b9=1");
        vault.set(0, 5);
        int[] before = look(vault);
        for (int name : NO_NAMES) {
            due("get", vault.get(name), NO_SUCH);
        }
        dueUnchanged(vault, before);
    }

    // ---- promise 7: set

    @Sentence("7 set: If it is the one that the setting has, nothing is written.")
    static void setToTheSame() {
        SettingsVault vault = full(false);
        int[] before = look(vault);
        due("the same on a full page", vault.set(0, 115), 0);
        due("the default that b has", vault.set(1, 1), 0);
        dueUnchanged(vault, before);
        vault.spoil(0, 46, 9);
        vault.fail(0);
        due("the same, spoiled since, ahead of a failure", vault.set(0, 115), 0);
        due("the power is on", vault.state(0), 1);
    }

    @Sentence("7 set: Returns the number of cells that were written")
    static void setReturns() {
        SettingsVault vault = full(true);
        due("a full page, two records", vault.set(1, 9), 9);
        due("a record", vault.set(1, 8), 3);
        due("nothing", vault.set(1, 8), 0);
        vault.fail(1);
        due("the power fails behind 1", vault.set(1, 7), 1);
        vault.start();
        vault.fail(0);
        due("the power fails behind 0", vault.set(1, 7), 0);
        vault = full(true);
        vault.fail(8);
        due("the power fails ahead of the last", vault.set(1, 9), 8);
    }

    @Sentence("7 set: NOT_POSSIBLE if the power is off")
    static void setNotPossible() {
        SettingsVault vault = ready("+a9=1");
        powerOff(vault);
        due("off", vault.set(0, 5), NOT_POSSIBLE);
        due("off, the same", vault.set(0, 1), NOT_POSSIBLE);
        vault.start();
        due("on", vault.set(0, 5), 3);
    }

    @Sentence("7 set: NO_SUCH if there is no active page")
    static void setNoPage() {
        SettingsVault vault = vault("+a9=1");
        due("ahead of the factory", vault.set(0, 5), NO_SUCH);
        vault.factory(0);
        due("behind it", vault.set(0, 5), 3);
    }

    @Sentence("7 set: or no such setting")
    static void setNoSetting() {
        SettingsVault vault = ready("+a9=1,+b9=1", "b>c");
        for (int name : NO_NAMES) {
            due("name " + name, vault.set(name, 1), NO_SUCH);
        }
        vault.migrate(1);
        due("b of another version", vault.set(1, 5), NO_SUCH);
        due("c of this one", vault.set(2, 5), 3);
    }

    @Sentence("7 set: BAD_VALUE if value is not from 0 to its greatest value")
    static void setBadValue() {
        SettingsVault vault = ready("+a9=1,+b255=1,+c0=0", "a*2");
        for (int value : new int[] {Integer.MIN_VALUE, NONE, -1, 10, 18, 255, 256, Integer.MAX_VALUE}) {
            due("a " + value, vault.set(0, value), BAD_VALUE);
        }
        due("b -1", vault.set(1, -1), BAD_VALUE);
        due("b 256", vault.set(1, 256), BAD_VALUE);
        due("c 1", vault.set(2, 1), BAD_VALUE);
        due("c 0", vault.set(2, 0), 0);
        due("a 9", vault.set(0, 9), 3);
        due("a 0", vault.set(0, 0), 3);
        due("b 255", vault.set(1, 255), 3);
        vault.migrate(1);
        due("a 18 then", vault.set(0, 18), 3);
        due("a 19 then", vault.set(0, 19), BAD_VALUE);
    }

    @Sentence("Conventions for 7 set: the first one that applies is returned")
    static void setOrder() {
        SettingsVault vault = vault("+a9=1");
        due("no active page ahead of a bad value", vault.set(0, 10), NO_SUCH);
        vault.factory(0);
        due("no setting ahead of a bad value", vault.set(1, -1), NO_SUCH);
        powerOff(vault);
        due("off ahead of no setting", vault.set(1, 1), NOT_POSSIBLE);
        due("off ahead of a bad value", vault.set(0, 10), NOT_POSSIBLE);
        vault = vault("+a9=1");
        powerOff(vault);
        due("off ahead of no active page", vault.set(0, 1), NOT_POSSIBLE);
    }

    @Sentence("Conventions for 7 set: A call that returns an error changes nothing.")
    static void setErrorsChangeNothing() {
        SettingsVault vault = full(false);
        vault.fail(1);
        int[] before = look(vault);
        for (int name : NO_NAMES) {
            due("no setting", vault.set(name, 1), NO_SUCH);
        }
        due("bad value", vault.set(0, 201), BAD_VALUE);
        due("bad value", vault.set(0, -1), BAD_VALUE);
        dueUnchanged(vault, before);
    }

    // ---- promise 8: compact

    @Sentence("8 compact: Fills the other page with all values, in the same version.")
    static void compactFills() {
        SettingsVault vault = vault("+a9=1", "a*2,+b9=2", "a*2");
        vault.factory(1);
        due("all at their defaults", vault.compact(), 3);
        dueStates("page 1", vault, 1, 1, 1, 1, 15);
        vault.set(1, 5);
        vault.set(0, 18);
        due("none at its default", vault.compact(), 9);
        dueStates("page 0", vault, 1, 0, 1, 2, 13);
        dueCells("page 0", vault, 0, 0, 201, 2, headCheck(1, 2), 1, 18, recordCheck(0, 18, 1),
            2, 5, recordCheck(1, 5, 1), NONE);
        vault = ready("+a255=0");
        writeRecords(vault, 15);
        due("a full page", vault.compact(), 6);
        due("room", vault.state(4), 14);
    }

    @Sentence("8 compact: Returns the number of cells that were written")
    static void compactReturns() {
        for (int writes = 0; writes <= 6; writes++) {
            SettingsVault vault = ready("+a9=1");
            vault.set(0, 5);
            vault.fail(writes);
            due("behind " + writes, vault.compact(), writes);
            due("on", vault.state(0), writes < 6 ? 0 : 1);
        }
    }

    @Sentence("8 compact: NOT_POSSIBLE if the power is off")
    static void compactOff() {
        SettingsVault vault = ready("+a9=1");
        powerOff(vault);
        due("off", vault.compact(), NOT_POSSIBLE);
        vault.start();
        due("on", vault.compact(), 3);
    }

    @Sentence("8 compact: or there is no active page")
    static void compactNoPage() {
        SettingsVault vault = vault("+a9=1");
        due("ahead of the factory", vault.compact(), NOT_POSSIBLE);
        vault.factory(0);
        due("behind it", vault.compact(), 3);
    }

    @Sentence("Conventions for 8 compact: A call that returns an error changes nothing.")
    static void compactErrorsChangeNothing() {
        SettingsVault vault = vault("+a9=1");
        spoilAll(vault, 0, 5);
        spoilAll(vault, 1, 6);
        int[] before = look(vault);
        due("no active page", vault.compact(), NOT_POSSIBLE);
        dueUnchanged(vault, before);
        vault = ready("+a9=1");
        powerOff(vault);
        vault.spoil(1, 47, 7);
        before = look(vault);
        due("off", vault.compact(), NOT_POSSIBLE);
        dueUnchanged(vault, before);
    }

    // ---- promise 9: migrate

    @Sentence("9 migrate: Migrates to a later version.")
    static void migrateToALaterVersion() {
        String[] versions = {"+a9=1", "a*2", "a*2", "a*2", "a*2", "a<100"};
        int[] values = {9, 18, 36, 72, 144, 100};
        for (int version = 1; version <= 5; version++) {
            SettingsVault vault = ready(versions);
            vault.set(0, 9);
            due("at once to " + version, vault.migrate(version), 6);
            due("version", vault.state(2), version);
            due("value", vault.get(0), values[version]);
        }
        SettingsVault vault = vault(versions);
        vault.factory(4);
        vault.set(0, 144);
        due("from the last but one", vault.migrate(5), 6);
        due("value", vault.get(0), 100);
    }

    @Sentence("9 migrate: Returns the number of cells that were written")
    static void migrateReturns() {
        for (int writes = 0; writes <= 6; writes++) {
            SettingsVault vault = ready("+a9=1,+b9=1", "b<0");
            vault.set(0, 5);
            vault.set(1, 6);
            vault.fail(writes);
            due("behind " + writes, vault.migrate(1), writes);
            due("on", vault.state(0), writes < 6 ? 0 : 1);
        }
        due("all at their defaults", ready("+a9=1", "a*2").migrate(1), 3);
    }

    @Sentence("9 migrate: NOT_POSSIBLE if the power is off")
    static void migrateOff() {
        SettingsVault vault = ready("+a9=1", "a*2");
        powerOff(vault);
        due("off", vault.migrate(1), NOT_POSSIBLE);
        vault.start();
        due("on", vault.migrate(1), 3);
    }

    @Sentence("9 migrate: or there is no active page")
    static void migrateNoPage() {
        SettingsVault vault = vault("+a9=1", "a*2");
        due("ahead of the factory", vault.migrate(1), NOT_POSSIBLE);
        due("not to version 0", vault.migrate(0), NOT_POSSIBLE);
        vault.factory(0);
        due("behind it", vault.migrate(1), 3);
    }

    @Sentence("9 migrate: NO_SUCH if there is no such version")
    static void migrateNoVersion() {
        SettingsVault vault = ready("+a9=1", "a*2");
        for (int version : NO_VERSIONS) {
            due("version " + version, vault.migrate(version), NO_SUCH);
        }
        due("the last", vault.migrate(1), 3);
        due("behind the last", vault.migrate(2), NO_SUCH);
        vault = vault("+a9=1", "a*2", "a*2", "a*2", "a*2", "a*2");
        vault.factory(5);
        due("behind the last of 6", vault.migrate(6), NO_SUCH);
    }

    @Sentence("9 migrate: BAD_VALUE if it is not later than the present one")
    static void migrateNotLater() {
        SettingsVault vault = vault("+a9=1", "a*2", "a*2");
        vault.factory(1);
        due("earlier", vault.migrate(0), BAD_VALUE);
        due("present", vault.migrate(1), BAD_VALUE);
        due("later", vault.migrate(2), 3);
        due("present then", vault.migrate(2), BAD_VALUE);
    }

    @Sentence("Conventions for 9 migrate: the first one that applies is returned")
    static void migrateOrder() {
        SettingsVault vault = vault("+a9=1");
        due("no active page ahead of no version", vault.migrate(1), NOT_POSSIBLE);
        vault.factory(0);
        due("no version ahead of not later", vault.migrate(-1), NO_SUCH);
        powerOff(vault);
        due("off ahead of no version", vault.migrate(1), NOT_POSSIBLE);
        due("off ahead of not later", vault.migrate(0), NOT_POSSIBLE);
    }

    @Sentence("Conventions for 9 migrate: A call that returns an error changes nothing.")
    static void migrateErrorsChangeNothing() {
        SettingsVault vault = vault("+a9=1", "a*2");
        vault.factory(1);
        vault.spoil(1, 47, 7);
        int[] before = look(vault);
        for (int version : NO_VERSIONS) {
            due("no version", vault.migrate(version), NO_SUCH);
        }
        due("earlier", vault.migrate(0), BAD_VALUE);
        due("present", vault.migrate(1), BAD_VALUE);
        dueUnchanged(vault, before);
        vault = vault("+a9=1", "a*2");
        spoilAll(vault, 0, 5);
        before = look(vault);
        due("no active page", vault.migrate(1), NOT_POSSIBLE);
        dueUnchanged(vault, before);
    }

    // ---- promise 10: factory

    @Sentence("10 factory: Returns to the factory's state.")
    static void factoryReturns() {
        SettingsVault vault = vault("+a9=1", "a*2", "a*2", "a*2", "a*2", "a*2");
        int[] versions = {5, 0, 0, 3, 1};
        for (int version : versions) {
            due("factory " + version, vault.factory(version), 3);
            dueStates("factory " + version, vault, 1, 0, version, 0, 15);
            due("default", vault.get(0), 1 << version);
            vault.set(0, 9);
        }
    }

    @Sentence("10 factory: Returns the number of cells that were written")
    static void factoryCells() {
        for (int writes = 0; writes <= 3; writes++) {
            SettingsVault vault = ready("+a9=1");
            vault.set(0, 5);
            vault.fail(writes);
            due("behind " + writes, vault.factory(0), writes);
            due("on", vault.state(0), writes < 3 ? 0 : 1);
        }
    }

    @Sentence("10 factory: NOT_POSSIBLE if the power is off")
    static void factoryOff() {
        SettingsVault vault = ready("+a9=1");
        powerOff(vault);
        due("off", vault.factory(0), NOT_POSSIBLE);
        vault.start();
        due("on", vault.factory(0), 3);
    }

    @Sentence("10 factory: NO_SUCH if there is no such version")
    static void factoryNoVersion() {
        due("no version at all", new SettingsVault().factory(0), NO_SUCH);
        SettingsVault vault = vault("+a9=1", "a*2");
        for (int version : NO_VERSIONS) {
            due("version " + version, vault.factory(version), NO_SUCH);
        }
        due("the first", vault.factory(0), 3);
        due("the last", vault.factory(1), 3);
    }

    @Sentence("Conventions for 10 factory: the first one that applies is returned")
    static void factoryOrder() {
        SettingsVault vault = ready("+a9=1");
        powerOff(vault);
        due("off ahead of no version", vault.factory(1), NOT_POSSIBLE);
        due("off ahead of no version", vault.factory(-1), NOT_POSSIBLE);
    }

    @Sentence("Conventions for 10 factory: A call that returns an error changes nothing.")
    static void factoryErrorsChangeNothing() {
        SettingsVault vault = ready("+a9=1", "a*2");
        vault.set(0, 5);
        int[] before = look(vault);
        for (int version : NO_VERSIONS) {
            due("no version", vault.factory(version), NO_SUCH);
        }
        dueUnchanged(vault, before);
        powerOff(vault);
        int erasures = vault.state(11);
        due("off", vault.factory(0), NOT_POSSIBLE);
        due("no erasure", vault.state(11), erasures);
    }
}
