/** Promises 14 and 15: what there is. */
public final class StatesTest extends Check {
    public static void main(String[] args) {
        promise14();
        promise14errors();
        promise15();
        promise15errors();
        end();
    }

    private static void promise14() {
        SettingsVault vault = vault("+a99=10,+b9=1,+c3=3", "-c");
        vault.put(code("a<5"));
        dueStates("versions", vault, 0, 1, NONE, NONE, NONE, 0, 0, 0, 0, 2, NONE, 0, 0, 3);
        vault.factory(0);
        dueStates("factory", vault, 0, 1, 0, 0, 0, 15, 0, 3, 0, 2, NONE, 3, 2, 3);
        vault.set(0, 20);
        vault.set(1, 2);
        vault.set(1, 1);
        vault.fail(50);
        dueStates("three records", vault, 0, 1, 0, 0, 0, 12, 0, 3, 1, 2, 50, 12, 2, 3);
        vault.migrate(1);
        dueStates("migrated", vault, 0, 1, 1, 1, 1, 14, 0, 2, 1, 2, 44, 18, 3, 3);
        vault.fail(2);
        vault.set(0, 30);
        dueStates("off", vault, 0, 0, 1, 1, 1, 14, 0, 2, 1, 2, NONE, 20, 3, 3);
        vault.start();
        dueStates("started", vault, 0, 1, 1, 1, 1, 13, 1, 2, 1, 2, NONE, 20, 3, 3);
        vault.wipe();
        vault.compact();
        dueStates("compact", vault, 0, 1, 0, 1, 2, 14, 1, 2, 1, 2, NONE, 26, 4, 0);
        vault.start();
        dueStates("started again", vault, 0, 1, 0, 1, 2, 14, 0, 2, 1, 2, NONE, 26, 4, 0);
        for (int i = 0; i < 14; i++) {
            vault.set(1, 5 + i % 2);
        }
        due("full", vault.state(4), 0);
        // An active page that is lost while the power is on is still the active one.
        vault.spoil(0, 0, NONE);
        dueStates("spoiled", vault, 0, 1, 0, 1, 2, 0, 0, 2, 2, 2, NONE, 68, 4, 0);
    }

    private static void promise14errors() {
        SettingsVault vault = new SettingsVault();
        for (int what : new int[] {Integer.MIN_VALUE, -6, -1, 13, Integer.MAX_VALUE}) {
            due("state(" + what + ")", vault.state(what), BAD_VALUE);
        }
    }

    private static void promise15() {
        SettingsVault vault = ready("+a99=10,+b9=1", "a*2,b>c");
        due("by default", vault.record(0), NONE);
        vault.set(0, 20);
        vault.set(1, 2);
        due("a", vault.record(0), 3);
        due("b", vault.record(1), 6);
        vault.set(0, 10);
        due("a's default was written", vault.record(0), 9);
        vault.start();
        due("a's default was read", vault.record(0), 9);
        vault.spoil(0, 9, NONE);
        due("it stays", vault.record(0), 9);
        vault.start();
        due("but for a start", vault.record(0), 3);
        vault.spoil(0, 3, 0);
        vault.start();
        due("no good one", vault.record(0), NONE);
        due("b", vault.record(1), 6);
        vault.migrate(1);
        due("a has its default", vault.record(0), NONE);
        due("c", vault.record(2), 3);
        due("no b", vault.record(1), NO_SUCH);
        vault.factory(1);
        due("factory", vault.record(2), NONE);
    }

    private static void promise15errors() {
        SettingsVault vault = vault("+a99=10");
        due("no active page", vault.record(0), NO_SUCH);
        vault.factory(0);
        for (int name : new int[] {Integer.MIN_VALUE, -1, 1, 10, Integer.MAX_VALUE}) {
            due("record(" + name + ")", vault.record(name), NO_SUCH);
        }
        vault.fail(0);
        vault.set(0, 1);
        due("off", vault.record(0), NOT_POSSIBLE);
        due("off, no name", vault.record(1), NOT_POSSIBLE);
    }
}
