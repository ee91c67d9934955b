/** Promises 14 and 15: what there is. */
public final class StatesTest {
    private static final int NONE = SettingsVault.NONE;

    public static void main(String[] args) {
        promise14();
        promise14errors();
        promise15();
        promise15errors();
        Check.end();
    }

    private static void dueStates(String when, SettingsVault vault, int... due) {
        for (int what = 0; what < due.length; what++) {
            Check.due(when + ": state(" + what + ")", vault.state(what), due[what]);
        }
    }

    private static void promise14() {
        SettingsVault vault = Check.vault("+a99=10,+b9=1,+c3=3", "-c");
        vault.put(Check.code("a<5"));
        dueStates("versions", vault, 1, NONE, NONE, NONE, 0, 0, 0, 0, 2, NONE, 0, 0, 3);
        vault.factory(0);
        dueStates("factory", vault, 1, 0, 0, 0, 15, 0, 3, 0, 2, NONE, 3, 2, 3);
        vault.set(0, 20);
        vault.set(1, 2);
        vault.set(1, 1);
        vault.fail(50);
        dueStates("three records", vault, 1, 0, 0, 0, 12, 0, 3, 1, 2, 50, 12, 2, 3);
        vault.migrate(1);
        dueStates("migrated", vault, 1, 1, 1, 1, 14, 0, 2, 1, 2, 44, 18, 3, 3);
        vault.fail(2);
        vault.set(0, 30);
        dueStates("off", vault, 0, 1, 1, 1, 14, 0, 2, 1, 2, NONE, 20, 3, 3);
        vault.start();
        dueStates("started", vault, 1, 1, 1, 1, 13, 1, 2, 1, 2, NONE, 20, 3, 3);
        vault.wipe();
        vault.compact();
        dueStates("compact", vault, 1, 0, 1, 2, 14, 1, 2, 1, 2, NONE, 26, 4, 0);
        vault.start();
        dueStates("started again", vault, 1, 0, 1, 2, 14, 0, 2, 1, 2, NONE, 26, 4, 0);
        for (int i = 0; i < 14; i++) {
            vault.set(1, 5 + i % 2);
        }
        Check.due("full", vault.state(4), 0);
        // An active page that is lost while the power is on is still the active one.
        vault.spoil(0, 0, NONE);
        dueStates("spoiled", vault, 1, 0, 1, 2, 0, 0, 2, 2, 2, NONE, 68, 4, 0);
    }

    private static void promise14errors() {
        SettingsVault vault = new SettingsVault();
        for (int what : new int[] {Integer.MIN_VALUE, -6, -1, 13, Integer.MAX_VALUE}) {
            Check.due("state(" + what + ")", vault.state(what), SettingsVault.BAD_VALUE);
        }
    }

    private static void promise15() {
        SettingsVault vault = Check.ready("+a99=10,+b9=1", "a*2,b>c");
        Check.due("by default", vault.record(0), NONE);
        vault.set(0, 20);
        vault.set(1, 2);
        Check.due("a", vault.record(0), 3);
        Check.due("b", vault.record(1), 6);
        vault.set(0, 10);
        Check.due("a's default was written", vault.record(0), 9);
        vault.start();
        Check.due("a's default was read", vault.record(0), 9);
        vault.spoil(0, 9, NONE);
        Check.due("it stays", vault.record(0), 9);
        vault.start();
        Check.due("but for a start", vault.record(0), 3);
        vault.spoil(0, 3, 0);
        vault.start();
        Check.due("no good one", vault.record(0), NONE);
        Check.due("b", vault.record(1), 6);
        vault.migrate(1);
        Check.due("a has its default", vault.record(0), NONE);
        Check.due("c", vault.record(2), 3);
        Check.due("no b", vault.record(1), SettingsVault.NO_SUCH);
        vault.factory(1);
        Check.due("factory", vault.record(2), NONE);
    }

    private static void promise15errors() {
        SettingsVault vault = Check.vault("+a99=10");
        Check.due("no active page", vault.record(0), SettingsVault.NO_SUCH);
        vault.factory(0);
        for (int name : new int[] {Integer.MIN_VALUE, -1, 1, 10, Integer.MAX_VALUE}) {
            Check.due("record(" + name + ")", vault.record(name), SettingsVault.NO_SUCH);
        }
        vault.fail(0);
        vault.set(0, 1);
        Check.due("off", vault.record(0), SettingsVault.NOT_POSSIBLE);
        Check.due("off, no name", vault.record(1), SettingsVault.NOT_POSSIBLE);
    }
}
