/** Promises 6 to 10: the settings. */
public final class SettingsTest extends Check {
    private static final int[] NAMES_NOT_THERE = {Integer.MIN_VALUE, -1, 2, 9, 10, Integer.MAX_VALUE};

    public static void main(String[] args) {
        promise06();
        promise07();
        promise07full();
        promise07errors();
        promise08();
        promise09();
        promise09steps();
        promise10();
        end();
    }

    private static void promise06() {
        SettingsVault vault = vault("+a99=10,+b9=1", "b>c");
        due("no active page", vault.get(0), NO_SUCH);
        vault.factory(0);
        due("a", vault.get(0), 10);
        due("b", vault.get(1), 1);
        for (int name : NAMES_NOT_THERE) {
            due("get(" + name + ")", vault.get(name), NO_SUCH);
        }
        vault.migrate(1);
        due("c then", vault.get(2), 1);
        due("no b then", vault.get(1), NO_SUCH);
        vault.spoil(1, 0, NONE);
        due("what was read stays", vault.get(0), 10);
        powerOff(vault);
        due("off", vault.get(0), NOT_POSSIBLE);
        due("off, no name", vault.get(1), NOT_POSSIBLE);
    }

    private static void promise07() {
        SettingsVault vault = vault("+a1=0", "+b255=7,-a", "b>j");
        vault.factory(2);
        due("set", vault.set(9, 255), 3);
        dueCells("record", vault, 0, 3, 10, 255, recordCheck(9, 255, 2), NONE);
        due("get", vault.get(9), 255);
        due("the same", vault.set(9, 255), 0);
        due("set 0", vault.set(9, 0), 3);
        dueCells("record", vault, 0, 6, 10, 0, recordCheck(9, 0, 2), NONE);
        due("set to its default", vault.set(9, 7), 3);
        due("its record", vault.record(9), 9);
        due("writes", vault.page(0, 0), 12);
        due("room", vault.state(4), 12);
        due("start", vault.start(), 0);
        due("get then", vault.get(9), 7);
        // The version stays as it was read, even if the head is spoiled.
        spoilHead(vault, 0, 1, 0);
        vault.set(9, 8);
        dueCells("record", vault, 0, 12, 10, 8, recordCheck(9, 8, 2));
    }

    private static void promise07full() {
        SettingsVault vault = ready("+a99=10,+b9=1,+c9=2");
        vault.set(1, 5);
        vault.set(2, 3);
        for (int i = 0; i < 13; i++) {
            due("set", vault.set(0, 20 + i), 3);
        }
        due("full", vault.state(4), 0);
        due("the same", vault.set(0, 32), 0);
        due("still there", vault.state(1), 0);
        due("set to its default", vault.set(2, 2), 9);
        due("active", vault.state(1), 1);
        due("sequence", vault.state(3), 1);
        due("room", vault.state(4), 13);
        int a = recordCheck(0, 32, 0);
        int b = recordCheck(1, 5, 0);
        dueCells("page 1", vault, 1, 0, 200, 1, headCheck(0, 1), 1, 32, a, 2, 5, b, NONE, NONE);
        due("a's record", vault.record(0), 3);
        due("b's record", vault.record(1), 6);
        due("c's record", vault.record(2), NONE);
        due("c", vault.get(2), 2);
        due("page 0 stays", vault.page(0, 5), 48);
        for (int i = 0; i < 13; i++) {
            vault.set(0, 20 + i);
        }
        due("full again", vault.set(0, 40), 9);
        due("page 0 is active", vault.state(1), 0);
        due("its sequence", vault.state(3), 2);
        due("its erasures", vault.page(0, 1), 2);
        due("new value", vault.get(0), 40);
        due("start", vault.start(), 0);
        due("new value then", vault.get(0), 40);
    }

    private static void promise07errors() {
        SettingsVault vault = vault("+a99=10,+b9=1");
        due("no active page", vault.set(0, 1), NO_SUCH);
        due("no active page, bad value", vault.set(0, -1), NO_SUCH);
        vault.factory(0);
        for (int name : NAMES_NOT_THERE) {
            due("set(" + name + ")", vault.set(name, -1), NO_SUCH);
        }
        for (int value : new int[] {Integer.MIN_VALUE, NONE, -1, 100, 256, Integer.MAX_VALUE}) {
            due("value " + value, vault.set(0, value), BAD_VALUE);
        }
        due("nothing written", vault.state(10), 3);
        powerOff(vault);
        due("off", vault.set(0, 1), NOT_POSSIBLE);
        due("off, no name", vault.set(5, 1), NOT_POSSIBLE);
        due("off, same value", vault.set(0, 10), NOT_POSSIBLE);
    }

    private static void promise08() {
        SettingsVault vault = vault("+a99=10,+b9=1,+c9=2", "a*2");
        due("no active page", vault.compact(), NOT_POSSIBLE);
        vault.factory(1);
        due("nothing to write but the head", vault.compact(), 3);
        dueCells("page 1", vault, 1, 0, 201, 1, headCheck(1, 1), NONE);
        vault.set(2, 9);
        vault.set(0, 0);
        vault.set(1, 3);
        vault.set(1, 1);
        due("two records", vault.compact(), 9);
        dueCells("page 0", vault, 0, 3, 1, 0, recordCheck(0, 0, 1),
            3, 9, recordCheck(2, 9, 1), NONE);
        due("active", vault.state(1), 0);
        due("version", vault.state(2), 1);
        due("sequence", vault.state(3), 2);
        due("room", vault.state(4), 13);
        due("record a", vault.record(0), 3);
        due("record b", vault.record(1), NONE);
        due("record c", vault.record(2), 6);
        // Values and sequence are those of the vault, whatever the cells are.
        spoilHead(vault, 0, 0, 77);
        vault.spoil(0, 4, 5);
        due("compact", vault.compact(), 9);
        due("sequence then", vault.state(3), 3);
        due("a then", vault.get(0), 0);
        powerOff(vault);
        due("off", vault.compact(), NOT_POSSIBLE);
    }

    private static void promise09() {
        SettingsVault vault = vault("+a99=10,+b9=1", "a*2", "b>c");
        due("no active page", vault.migrate(1), NOT_POSSIBLE);
        due("no active page, no version", vault.migrate(9), NOT_POSSIBLE);
        vault.factory(1);
        for (int version : new int[] {Integer.MIN_VALUE, -1, 3, 6, Integer.MAX_VALUE}) {
            due("migrate(" + version + ")", vault.migrate(version), NO_SUCH);
        }
        due("earlier", vault.migrate(0), BAD_VALUE);
        due("present", vault.migrate(1), BAD_VALUE);
        due("nothing written", vault.state(10), 3);
        vault.set(1, 4);
        due("later", vault.migrate(2), 6);
        dueCells("page 1", vault, 1, 0, 202, 1, headCheck(2, 1), 3, 4, recordCheck(2, 4, 2), NONE);
        due("active", vault.state(1), 1);
        due("version", vault.state(2), 2);
        due("c", vault.get(2), 4);
        due("its record", vault.record(2), 3);
        due("no b", vault.get(1), NO_SUCH);
        due("start", vault.start(), 1);
        due("c then", vault.get(2), 4);
        powerOff(vault);
        due("off", vault.migrate(2), NOT_POSSIBLE);
    }

    private static void promise09steps() {
        SettingsVault vault = ready("+a100=50,+b100=60,+c9=9,+d90=80,+e9=1,+f255=255",
            "a*3,b/7,d<70,-e,+e8=8,c>g", "g>c,a/2,-f,+h9=3,h*3,h>f,b*2,b<20");
        vault.set(0, 90);
        vault.set(1, 100);
        vault.set(2, 5);
        vault.set(3, 75);
        vault.set(4, 9);
        vault.set(5, 1);
        due("migrate by two", vault.migrate(2), 12);
        int[] due = {127, 20, 5, 70, 8, 9};
        for (int name = 0; name < due.length; name++) {
            due("value " + name, vault.get(name), due[name]);
        }
        due("no g", vault.get(6), NO_SUCH);
        due("no h", vault.get(7), NO_SUCH);
        due("a's record", vault.record(0), 3);
        due("b's record", vault.record(1), 6);
        due("c's record", vault.record(2), 9);
        due("d has its default", vault.record(3), NONE);
        due("settings", vault.state(6), 6);
        due("changed", vault.state(7), 3);
    }

    private static void promise10() {
        SettingsVault vault = vault("+a99=10,+b9=1", "a*2");
        due("factory of a new one", vault.factory(1), 3);
        due("version", vault.state(2), 1);
        vault.set(0, 33);
        vault.compact();
        vault.set(1, 3);
        for (int version : new int[] {Integer.MIN_VALUE, -1, 2, 6, Integer.MAX_VALUE}) {
            due("factory(" + version + ")", vault.factory(version), NO_SUCH);
        }
        due("nothing changed", vault.get(0), 33);
        due("factory to an earlier one", vault.factory(0), 3);
        dueCells("page 0", vault, 0, 0, 200, 0, headCheck(0, 0), NONE);
        dueStates("factory", vault, 0, 1, 0, 0, 0, 15, 0, 2, 0);
        due("page 1 erased", vault.page(1, 5), 0);
        due("erasures", vault.state(11), 5);
        due("a", vault.get(0), 10);
        due("its record", vault.record(0), NONE);
        due("start", vault.start(), 0);
        powerOff(vault);
        due("off", vault.factory(0), NOT_POSSIBLE);
        due("off, no version", vault.factory(7), NOT_POSSIBLE);
    }
}
