/** Promises 6 to 10: the settings. */
public final class SettingsTest {
    private static final int NONE = SettingsVault.NONE;
    private static final int[] NAMES_NOT_THERE = {Integer.MIN_VALUE, -1, 2, 9, 10, Integer.MAX_VALUE};

    public static void main(String[] args) {
        promise06();
        promise07();
        promise07full();
        promise07errors();
        promise08();
        promise09();
        promise09steps();
        promise10();
        Check.end();
    }

    private static void powerOff(SettingsVault vault) {
        vault.fail(0);
        vault.compact();
        Check.due("power off", vault.state(0), 0);
    }

    private static void promise06() {
        SettingsVault vault = Check.vault("+a99=10,+b9=1", "b>c");
        Check.due("no active page", vault.get(0), SettingsVault.NO_SUCH);
        vault.factory(0);
        Check.due("a", vault.get(0), 10);
        Check.due("b", vault.get(1), 1);
        for (int name : NAMES_NOT_THERE) {
            Check.due("get(" + name + ")", vault.get(name), SettingsVault.NO_SUCH);
        }
        vault.migrate(1);
        Check.due("c then", vault.get(2), 1);
        Check.due("no b then", vault.get(1), SettingsVault.NO_SUCH);
        vault.spoil(1, 0, NONE);
        Check.due("what was read stays", vault.get(0), 10);
        powerOff(vault);
        Check.due("off", vault.get(0), SettingsVault.NOT_POSSIBLE);
        Check.due("off, no name", vault.get(1), SettingsVault.NOT_POSSIBLE);
    }

    private static void promise07() {
        SettingsVault vault = Check.vault("+a1=0", "+b255=7,-a", "b>j");
        vault.factory(2);
        Check.due("set", vault.set(9, 255), 3);
        Check.dueCells("record", vault, 0, 3, 10, 255, Check.recordCheck(9, 255, 2), NONE);
        Check.due("get", vault.get(9), 255);
        Check.due("the same", vault.set(9, 255), 0);
        Check.due("set 0", vault.set(9, 0), 3);
        Check.dueCells("record", vault, 0, 6, 10, 0, Check.recordCheck(9, 0, 2), NONE);
        Check.due("set to its default", vault.set(9, 7), 3);
        Check.due("its record", vault.record(9), 9);
        Check.due("writes", vault.page(0, 0), 12);
        Check.due("room", vault.state(4), 12);
        Check.due("start", vault.start(), 0);
        Check.due("get then", vault.get(9), 7);
        // The version stays as it was read, even if the head is spoiled.
        Check.spoilHead(vault, 0, 1, 0);
        vault.set(9, 8);
        Check.dueCells("record", vault, 0, 12, 10, 8, Check.recordCheck(9, 8, 2));
    }

    private static void promise07full() {
        SettingsVault vault = Check.ready("+a99=10,+b9=1,+c9=2");
        vault.set(1, 5);
        vault.set(2, 3);
        for (int i = 0; i < 13; i++) {
            Check.due("set", vault.set(0, 20 + i), 3);
        }
        Check.due("full", vault.state(4), 0);
        Check.due("the same", vault.set(0, 32), 0);
        Check.due("still there", vault.state(1), 0);
        Check.due("set to its default", vault.set(2, 2), 9);
        Check.due("active", vault.state(1), 1);
        Check.due("sequence", vault.state(3), 1);
        Check.due("room", vault.state(4), 13);
        int a = Check.recordCheck(0, 32, 0);
        int b = Check.recordCheck(1, 5, 0);
        Check.dueCells("page 1", vault, 1, 0, 200, 1, Check.headCheck(0, 1), 1, 32, a, 2, 5, b, NONE, NONE);
        Check.due("a's record", vault.record(0), 3);
        Check.due("b's record", vault.record(1), 6);
        Check.due("c's record", vault.record(2), NONE);
        Check.due("c", vault.get(2), 2);
        Check.due("page 0 stays", vault.page(0, 5), 48);
        for (int i = 0; i < 13; i++) {
            vault.set(0, 20 + i);
        }
        Check.due("full again", vault.set(0, 40), 9);
        Check.due("page 0 is active", vault.state(1), 0);
        Check.due("its sequence", vault.state(3), 2);
        Check.due("its erasures", vault.page(0, 1), 2);
        Check.due("new value", vault.get(0), 40);
        Check.due("start", vault.start(), 0);
        Check.due("new value then", vault.get(0), 40);
    }

    private static void promise07errors() {
        SettingsVault vault = Check.vault("+a99=10,+b9=1");
        Check.due("no active page", vault.set(0, 1), SettingsVault.NO_SUCH);
        Check.due("no active page, bad value", vault.set(0, -1), SettingsVault.NO_SUCH);
        vault.factory(0);
        for (int name : NAMES_NOT_THERE) {
            Check.due("set(" + name + ")", vault.set(name, -1), SettingsVault.NO_SUCH);
        }
        for (int value : new int[] {Integer.MIN_VALUE, NONE, -1, 100, 256, Integer.MAX_VALUE}) {
            Check.due("value " + value, vault.set(0, value), SettingsVault.BAD_VALUE);
        }
        Check.due("nothing written", vault.state(10), 3);
        powerOff(vault);
        Check.due("off", vault.set(0, 1), SettingsVault.NOT_POSSIBLE);
        Check.due("off, no name", vault.set(5, 1), SettingsVault.NOT_POSSIBLE);
        Check.due("off, same value", vault.set(0, 10), SettingsVault.NOT_POSSIBLE);
    }

    private static void promise08() {
        SettingsVault vault = Check.vault("+a99=10,+b9=1,+c9=2", "a*2");
        Check.due("no active page", vault.compact(), SettingsVault.NOT_POSSIBLE);
        vault.factory(1);
        Check.due("nothing to write but the head", vault.compact(), 3);
        Check.dueCells("page 1", vault, 1, 0, 201, 1, Check.headCheck(1, 1), NONE);
        vault.set(2, 9);
        vault.set(0, 0);
        vault.set(1, 3);
        vault.set(1, 1);
        Check.due("two records", vault.compact(), 9);
        Check.dueCells("page 0", vault, 0, 3, 1, 0, Check.recordCheck(0, 0, 1),
            3, 9, Check.recordCheck(2, 9, 1), NONE);
        Check.due("active", vault.state(1), 0);
        Check.due("version", vault.state(2), 1);
        Check.due("sequence", vault.state(3), 2);
        Check.due("room", vault.state(4), 13);
        Check.due("record a", vault.record(0), 3);
        Check.due("record b", vault.record(1), NONE);
        Check.due("record c", vault.record(2), 6);
        // Values and sequence are those of the vault, whatever the cells are.
        Check.spoilHead(vault, 0, 0, 77);
        vault.spoil(0, 4, 5);
        Check.due("compact", vault.compact(), 9);
        Check.due("sequence then", vault.state(3), 3);
        Check.due("a then", vault.get(0), 0);
        powerOff(vault);
        Check.due("off", vault.compact(), SettingsVault.NOT_POSSIBLE);
    }

    private static void promise09() {
        SettingsVault vault = Check.vault("+a99=10,+b9=1", "a*2", "b>c");
        Check.due("no active page", vault.migrate(1), SettingsVault.NOT_POSSIBLE);
        Check.due("no active page, no version", vault.migrate(9), SettingsVault.NOT_POSSIBLE);
        vault.factory(1);
        for (int version : new int[] {Integer.MIN_VALUE, -1, 3, 6, Integer.MAX_VALUE}) {
            Check.due("migrate(" + version + ")", vault.migrate(version), SettingsVault.NO_SUCH);
        }
        Check.due("earlier", vault.migrate(0), SettingsVault.BAD_VALUE);
        Check.due("present", vault.migrate(1), SettingsVault.BAD_VALUE);
        Check.due("nothing written", vault.state(10), 3);
        vault.set(1, 4);
        Check.due("later", vault.migrate(2), 6);
        Check.dueCells("page 1", vault, 1, 0, 202, 1, Check.headCheck(2, 1), 3, 4, Check.recordCheck(2, 4, 2), NONE);
        Check.due("active", vault.state(1), 1);
        Check.due("version", vault.state(2), 2);
        Check.due("c", vault.get(2), 4);
        Check.due("its record", vault.record(2), 3);
        Check.due("no b", vault.get(1), SettingsVault.NO_SUCH);
        Check.due("start", vault.start(), 1);
        Check.due("c then", vault.get(2), 4);
        powerOff(vault);
        Check.due("off", vault.migrate(2), SettingsVault.NOT_POSSIBLE);
    }

    private static void promise09steps() {
        SettingsVault vault = Check.ready("+a100=50,+b100=60,+c9=9,+d90=80,+e9=1,+f255=255",
            "a*3,b/7,d<70,-e,+e8=8,c>g", "g>c,a/2,-f,+h9=3,h*3,h>f,b*2,b<20");
        vault.set(0, 90);
        vault.set(1, 100);
        vault.set(2, 5);
        vault.set(3, 75);
        vault.set(4, 9);
        vault.set(5, 1);
        Check.due("migrate by two", vault.migrate(2), 12);
        int[] due = {127, 20, 5, 70, 8, 9};
        for (int name = 0; name < due.length; name++) {
            Check.due("value " + name, vault.get(name), due[name]);
        }
        Check.due("no g", vault.get(6), SettingsVault.NO_SUCH);
        Check.due("no h", vault.get(7), SettingsVault.NO_SUCH);
        Check.due("a's record", vault.record(0), 3);
        Check.due("b's record", vault.record(1), 6);
        Check.due("c's record", vault.record(2), 9);
        Check.due("d has its default", vault.record(3), NONE);
        Check.due("settings", vault.state(6), 6);
        Check.due("changed", vault.state(7), 3);
    }

    private static void promise10() {
        SettingsVault vault = Check.vault("+a99=10,+b9=1", "a*2");
        Check.due("factory of a new one", vault.factory(1), 3);
        Check.due("version", vault.state(2), 1);
        vault.set(0, 33);
        vault.compact();
        vault.set(1, 3);
        for (int version : new int[] {Integer.MIN_VALUE, -1, 2, 6, Integer.MAX_VALUE}) {
            Check.due("factory(" + version + ")", vault.factory(version), SettingsVault.NO_SUCH);
        }
        Check.due("nothing changed", vault.get(0), 33);
        Check.due("factory to an earlier one", vault.factory(0), 3);
        Check.dueCells("page 0", vault, 0, 0, 200, 0, Check.headCheck(0, 0), NONE);
        int[] states = {1, 0, 0, 0, 15, 0, 2, 0};
        for (int what = 0; what < states.length; what++) {
            Check.due("state(" + what + ")", vault.state(what), states[what]);
        }
        Check.due("page 1 erased", vault.page(1, 5), 0);
        Check.due("erasures", vault.state(11), 5);
        Check.due("a", vault.get(0), 10);
        Check.due("its record", vault.record(0), NONE);
        Check.due("start", vault.start(), 0);
        powerOff(vault);
        Check.due("off", vault.factory(0), SettingsVault.NOT_POSSIBLE);
        Check.due("off, no version", vault.factory(7), SettingsVault.NOT_POSSIBLE);
    }
}
