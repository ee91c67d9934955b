/** The sentences of the promises 16 and 17 that name a boundary case. */
public final class WhatIfEdgesTest extends Check {
    private static final int[] NO_VERSIONS = {Integer.MIN_VALUE, NONE, -1, 3, 5, 6, Integer.MAX_VALUE};
    private static final int[] NO_NAMES = {Integer.MIN_VALUE, NONE, -1, 2, 9, 10, Integer.MAX_VALUE};
    private static final int[] NO_VALUES = {Integer.MIN_VALUE, NONE, -1, 10, 256, Integer.MAX_VALUE};
    private static final int[] NO_WRITES = {Integer.MIN_VALUE, NONE, -1, 201, Integer.MAX_VALUE};

    public static void main(String[] args) {
        sentences(WhatIfEdgesTest.class);
    }

    // ---- promise 16: ifMigrated

    @Sentence("16 ifMigrated: Tells what a setting would have behind a migration.")
    static void ifMigratedTells() {
        SettingsVault vault = ready("+a255=10,+b9=1,+c9=2", "a*2,b>d", "a/2,-c,+c9=0", "c<5", "+e7=7", "a>b");
        due("a default", vault.ifMigrated(1, 0), 20);
        vault.set(0, 200);
        vault.set(1, 9);
        vault.set(2, 9);
        int[][] due = {{1, 0, 255}, {1, 3, 9}, {1, 2, 9}, {2, 0, 127}, {2, 2, 0}, {3, 2, 0}, {4, 4, 7}, {5, 1, 127},
            {5, 3, 9}, {5, 4, 7}};
        for (int[] row : due) {
            due("version " + row[0] + " name " + row[1], vault.ifMigrated(row[0], row[1]), row[2]);
        }
        vault.migrate(5);
        due("b", vault.get(1), 127);
    }

    @Sentence("Ahead of 16 and 17: what if; nothing changes")
    static void ifMigratedChangesNothing() {
        SettingsVault vault = ready("+a9=1,+b9=1", "a*2,b>c");
        vault.set(0, 5);
        vault.fail(0);
        int[] before = look(vault);
        due("a", vault.ifMigrated(1, 0), 10);
        due("c", vault.ifMigrated(1, 2), 1);
        dueUnchanged(vault, before);
    }

    @Sentence("16 ifMigrated: a later version")
    static void ifMigratedLaterVersion() {
        SettingsVault vault = vault("+a1=1", "a*2", "a*2", "a*2", "a*2", "a*2");
        vault.factory(4);
        due("the last", vault.ifMigrated(5, 0), 32);
        due("the present", vault.ifMigrated(4, 0), BAD_VALUE);
        vault.factory(0);
        due("the next", vault.ifMigrated(1, 0), 2);
        due("the last from the first", vault.ifMigrated(5, 0), 32);
    }

    @Sentence("16 ifMigrated: a setting of that version")
    static void ifMigratedSettingOfThatVersion() {
        SettingsVault vault = ready("+a9=1,+b9=2", "a>j,-b");
        due("j is there", vault.ifMigrated(1, 9), 1);
        due("a is there no more", vault.ifMigrated(1, 0), NO_SUCH);
        due("b is there no more", vault.ifMigrated(1, 1), NO_SUCH);
    }

    @Sentence("16 ifMigrated: NOT_POSSIBLE if the power is off")
    static void ifMigratedOff() {
        SettingsVault vault = ready("+a9=1", "a*2");
        powerOff(vault);
        due("off", vault.ifMigrated(1, 0), NOT_POSSIBLE);
        vault.start();
        due("on", vault.ifMigrated(1, 0), 2);
    }

    @Sentence("16 ifMigrated: or there is no active page")
    static void ifMigratedNoPage() {
        SettingsVault vault = vault("+a9=1", "a*2");
        due("ahead of the factory", vault.ifMigrated(1, 0), NOT_POSSIBLE);
        due("not from a layout without settings", vault.ifMigrated(0, 0), NOT_POSSIBLE);
        vault.factory(0);
        due("behind it", vault.ifMigrated(1, 0), 2);
    }

    @Sentence("16 ifMigrated: NO_SUCH if there is no such version, or no such setting in it")
    static void ifMigratedNoSuch() {
        SettingsVault vault = ready("+a9=1", "a>b", "b>a,+j5=5");
        for (int version : NO_VERSIONS) {
            due("version " + version, vault.ifMigrated(version, 0), NO_SUCH);
        }
        for (int name : new int[] {Integer.MIN_VALUE, NONE, -1, 1, 8, 10, Integer.MAX_VALUE}) {
            due("name " + name, vault.ifMigrated(2, name), NO_SUCH);
        }
        due("the last version, the last name", vault.ifMigrated(2, 9), 5);
    }

    @Sentence("16 ifMigrated: BAD_VALUE if the version is not later than the present one")
    static void ifMigratedNotLater() {
        SettingsVault vault = vault("+a9=1", "a*2", "a*2");
        vault.factory(1);
        due("earlier", vault.ifMigrated(0, 0), BAD_VALUE);
        due("present", vault.ifMigrated(1, 0), BAD_VALUE);
        due("later", vault.ifMigrated(2, 0), 4);
    }

    @Sentence("Conventions for 16 ifMigrated: the first one that applies is returned")
    static void ifMigratedOrder() {
        SettingsVault vault = vault("+a9=1", "a>b");
        due("no active page ahead of no version", vault.ifMigrated(2, 0), NOT_POSSIBLE);
        vault.factory(1);
        due("no version ahead of not later", vault.ifMigrated(-1, 1), NO_SUCH);
        due("no setting ahead of not later", vault.ifMigrated(0, 1), NO_SUCH);
        due("no setting ahead of the present one", vault.ifMigrated(1, 0), NO_SUCH);
        powerOff(vault);
        due("off ahead of no version", vault.ifMigrated(2, 0), NOT_POSSIBLE);
        due("off ahead of no setting", vault.ifMigrated(0, 1), NOT_POSSIBLE);
        due("off ahead of not later", vault.ifMigrated(0, 0), NOT_POSSIBLE);
    }

    @Sentence("Conventions for 16 ifMigrated: A call that returns an error changes nothing.")
    static void ifMigratedErrorsChangeNothing() {
        SettingsVault vault = vault("+a9=1", "a*2", "a*2");
        vault.factory(1);
        int[] before = look(vault);
        for (int version : NO_VERSIONS) {
            due("no version", vault.ifMigrated(version, 0), NO_SUCH);
        }
        due("no setting", vault.ifMigrated(2, 1), NO_SUCH);
        due("not later", vault.ifMigrated(1, 0), BAD_VALUE);
        dueUnchanged(vault, before);
    }

    // ---- promise 17: ifFailed

    @Sentence("17 ifFailed: Tells what would be found if the power failed in setting a value")
    static void ifFailedTells() {
        SettingsVault vault = ready("+a9=1,+b9=2");
        vault.set(0, 5);
        int[] due = {5, 5, 5, 9, 9};
        for (int writes = 0; writes < due.length; writes++) {
            due("behind " + writes, vault.ifFailed(0, 9, writes, 0), due[writes]);
            due("b behind " + writes, vault.ifFailed(0, 9, writes, 1), 2);
        }
        due("to its default", vault.ifFailed(0, 1, 2, 0), 5);
        due("to its default, written", vault.ifFailed(0, 1, 3, 0), 1);
    }

    @Sentence("17 ifFailed: the power failed in setting a value [without room for a record]")
    static void ifFailedOnAFullPage() {
        SettingsVault vault = readyAt(199, "+a200=0,+b9=2");
        vault.set(1, 7);
        writeRecords(vault, 14);
        for (int writes = 0; writes <= 9; writes++) {
            due("a behind " + writes, vault.ifFailed(0, 200, writes, 0), writes < 9 ? 114 : 200);
            due("b behind " + writes, vault.ifFailed(0, 200, writes, 1), 7);
        }
        due("to its default, ahead of the last write", vault.ifFailed(0, 0, 5, 0), 114);
        due("to its default", vault.ifFailed(0, 0, 6, 0), 0);
        due("the same", vault.ifFailed(0, 114, 0, 0), 114);
    }

    @Sentence("17 ifFailed: (in place of a failure that is set)")
    static void ifFailedInPlaceOfAFailure() {
        SettingsVault vault = ready("+a9=1");
        vault.fail(0);
        due("behind 3, not 0", vault.ifFailed(0, 9, 3, 0), 9);
        due("still set", vault.state(9), 0);
        vault.fail(200);
        due("behind 2, not 200", vault.ifFailed(0, 9, 2, 0), 1);
        due("still set then", vault.state(9), 200);
    }

    @Sentence("17 ifFailed: and the vault was started then (also if it did not come to the failure)")
    static void ifFailedAndStarted() {
        SettingsVault vault = ready("+a9=1,+b9=2");
        vault.set(1, 7);
        vault.spoil(0, 5, NONE);
        due("nothing is written", vault.ifFailed(0, 1, 0, 1), 2);
        due("all is written", vault.ifFailed(0, 9, 200, 1), 2);
        due("the power fails", vault.ifFailed(0, 9, 0, 1), 2);
        due("what was read stays", vault.get(1), 7);
        spoilHead(vault, 1, 0, 1);
        due("the other page is found", vault.ifFailed(0, 9, 200, 0), 1);
    }

    @Sentence("17 ifFailed: 0 to 200: behind so many writes the power fails")
    static void ifFailedWrites() {
        SettingsVault vault = ready("+a9=1");
        due("0", vault.ifFailed(0, 9, 0, 0), 1);
        due("2", vault.ifFailed(0, 9, 2, 0), 1);
        due("3", vault.ifFailed(0, 9, 3, 0), 9);
        due("200", vault.ifFailed(0, 9, 200, 0), 9);
        due("201", vault.ifFailed(0, 9, 201, 0), BAD_VALUE);
        due("-1", vault.ifFailed(0, 9, -1, 0), BAD_VALUE);
        due("NONE", vault.ifFailed(0, 9, NONE, 0), BAD_VALUE);
    }

    @Sentence("Ahead of 16 and 17: what if; nothing changes")
    static void ifFailedChangesNothing() {
        SettingsVault vault = ready("+a200=0,+b9=1");
        writeRecords(vault, 15);
        vault.fail(4);
        int[] before = look(vault);
        due("a full page", vault.ifFailed(0, 9, 200, 0), 9);
        due("a full page, failing", vault.ifFailed(0, 9, 5, 0), 115);
        due("at once", vault.ifFailed(0, 9, 0, 1), 1);
        dueUnchanged(vault, before);
        due("the set is as it would have been", vault.set(0, 9), 4);
    }

    @Sentence("17 ifFailed: NOT_POSSIBLE if the power is off")
    static void ifFailedOff() {
        SettingsVault vault = ready("+a9=1");
        powerOff(vault);
        due("off", vault.ifFailed(0, 5, 200, 0), NOT_POSSIBLE);
        vault.start();
        due("on", vault.ifFailed(0, 5, 200, 0), 5);
    }

    @Sentence("17 ifFailed: NO_SUCH if there is no active page")
    static void ifFailedNoPage() {
        SettingsVault vault = vault("+a9=1");
        due("ahead of the factory", vault.ifFailed(0, 5, 3, 0), NO_SUCH);
        vault.factory(0);
        due("behind it", vault.ifFailed(0, 5, 3, 0), 5);
    }

    @Sentence("17 ifFailed: or no such setting (name or asked)")
    static void ifFailedNoSetting() {
        SettingsVault vault = ready("+a9=1,+b9=1");
        for (int name : NO_NAMES) {
            due("name " + name, vault.ifFailed(name, 5, 3, 0), NO_SUCH);
            due("asked " + name, vault.ifFailed(0, 5, 3, name), NO_SUCH);
        }
        due("both there", vault.ifFailed(1, 5, 3, 1), 5);
    }

    @Sentence("17 ifFailed: BAD_VALUE if value is not from 0 to the greatest value, or writes is out of range")
    static void ifFailedBadValue() {
        SettingsVault vault = ready("+a9=1,+b255=1");
        for (int value : NO_VALUES) {
            due("value " + value, vault.ifFailed(0, value, 3, 1), BAD_VALUE);
        }
        for (int writes : NO_WRITES) {
            due("writes " + writes, vault.ifFailed(0, 5, writes, 0), BAD_VALUE);
            due("writes for nothing " + writes, vault.ifFailed(0, 1, writes, 0), BAD_VALUE);
        }
        due("0", vault.ifFailed(0, 0, 3, 0), 0);
        due("the greatest of a", vault.ifFailed(0, 9, 3, 0), 9);
        due("the greatest of b", vault.ifFailed(1, 255, 3, 1), 255);
    }

    @Sentence("17 ifFailed: NONE if there is no active page then")
    static void ifFailedNoPageThen() {
        SettingsVault vault = ready("+a200=0");
        writeRecords(vault, 15);
        due("a head", vault.ifFailed(0, 9, 5, 0), 115);
        vault.spoil(0, 2, NONE);
        due("no head, one that is half written", vault.ifFailed(0, 9, 5, 0), NONE);
        due("no head, one that is whole", vault.ifFailed(0, 9, 6, 0), 9);
        due("no head, nothing written", vault.ifFailed(0, 115, 200, 0), NONE);
        due("still active", vault.get(0), 115);
    }

    @Sentence("17 ifFailed: or no such setting")
    static void ifFailedNoSettingThen() {
        SettingsVault vault = ready("+a9=1,+b9=1", "b>c");
        spoilHead(vault, 1, 1, 1);
        due("b is not there then", vault.ifFailed(1, 5, 200, 1), NONE);
        due("a is there then", vault.ifFailed(1, 5, 200, 0), 1);
        due("c is not there now", vault.ifFailed(1, 5, 200, 2), NO_SUCH);
    }

    @Sentence("Conventions for 17 ifFailed: the first one that applies is returned")
    static void ifFailedOrder() {
        SettingsVault vault = vault("+a9=1");
        due("no active page ahead of a bad value", vault.ifFailed(0, 10, 3, 0), NO_SUCH);
        vault.factory(0);
        due("no name ahead of a bad value", vault.ifFailed(1, 10, 3, 0), NO_SUCH);
        due("no asked ahead of a bad value", vault.ifFailed(0, 10, 3, 1), NO_SUCH);
        due("no asked ahead of bad writes", vault.ifFailed(0, 9, 201, 1), NO_SUCH);
        vault.spoil(0, 0, NONE);
        due("a bad value ahead of NONE", vault.ifFailed(0, 10, 3, 0), BAD_VALUE);
        due("bad writes ahead of NONE", vault.ifFailed(0, 9, 201, 0), BAD_VALUE);
        due("NONE", vault.ifFailed(0, 9, 3, 0), NONE);
        powerOff(vault);
        due("off ahead of no name", vault.ifFailed(1, 9, 3, 0), NOT_POSSIBLE);
        due("off ahead of no asked", vault.ifFailed(0, 9, 3, 1), NOT_POSSIBLE);
        due("off ahead of a bad value", vault.ifFailed(0, 10, 3, 0), NOT_POSSIBLE);
        due("off ahead of bad writes", vault.ifFailed(0, 9, 201, 0), NOT_POSSIBLE);
        vault = vault("+a9=1");
        powerOff(vault);
        due("off ahead of no active page", vault.ifFailed(0, 9, 3, 0), NOT_POSSIBLE);
    }

    @Sentence("Conventions for 17 ifFailed: A call that returns an error changes nothing.")
    static void ifFailedErrorsChangeNothing() {
        SettingsVault vault = ready("+a9=1,+b9=1");
        vault.fail(9);
        int[] before = look(vault);
        for (int name : NO_NAMES) {
            due("no name", vault.ifFailed(name, 5, 3, 0), NO_SUCH);
            due("no asked", vault.ifFailed(0, 5, 3, name), NO_SUCH);
        }
        for (int value : NO_VALUES) {
            due("bad value", vault.ifFailed(0, value, 3, 0), BAD_VALUE);
        }
        for (int writes : NO_WRITES) {
            due("bad writes", vault.ifFailed(0, 5, writes, 0), BAD_VALUE);
        }
        dueUnchanged(vault, before);
    }
}
