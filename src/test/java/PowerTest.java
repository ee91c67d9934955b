/** Promises 4 and 5: the power, and what is found at a start. */
public final class PowerTest {
    private static final int NONE = SettingsVault.NONE;

    public static void main(String[] args) {
        promise04();
        promise04errors();
        failureInSet();
        failureInFill();
        failureInFactory();
        promise05();
        activePage();
        heads();
        records();
        recordWithCheckZero();
        Check.end();
    }

    private static void promise04() {
        SettingsVault vault = Check.ready("+a99=10");
        Check.due("fail(4)", vault.fail(4), 0);
        Check.due("state(9)", vault.state(9), 4);
        Check.due("fail(5) again", vault.fail(5), 1);
        Check.due("set", vault.set(0, 1), 3);
        Check.due("state(9) behind 3 writes", vault.state(9), 2);
        Check.due("fail(NONE)", vault.fail(NONE), 1);
        Check.due("fail(NONE) again", vault.fail(NONE), 0);
        Check.due("state(9) then", vault.state(9), NONE);
        Check.due("fail(200)", vault.fail(200), 0);
        Check.due("state(9) then", vault.state(9), 200);
        Check.due("fail(0)", vault.fail(0), 1);
        Check.due("state(9) then", vault.state(9), 0);
        Check.due("fail(3) over 0", vault.fail(3), 1);
        Check.due("a set with just enough power", vault.set(0, 2), 3);
        Check.due("the power is still on", vault.state(0), 1);
        Check.due("no write left", vault.state(9), 0);
        Check.due("a set without writing", vault.set(0, 2), 0);
        Check.due("the power is on even then", vault.state(0), 1);
        Check.due("get", vault.get(0), 2);
        Check.due("the next write fails", vault.set(0, 3), 0);
        Check.due("the power is off", vault.state(0), 0);
        Check.due("state(9) while off", vault.state(9), NONE);
    }

    private static void promise04errors() {
        SettingsVault vault = Check.ready("+a99=10");
        for (int writes : new int[] {Integer.MIN_VALUE, -7, -5, -1, 201, Integer.MAX_VALUE}) {
            Check.due("fail(" + writes + ")", vault.fail(writes), SettingsVault.BAD_VALUE);
        }
        Check.due("nothing was set", vault.state(9), NONE);
        vault.fail(0);
        vault.set(0, 1);
        Check.due("fail(1) while off", vault.fail(1), SettingsVault.NOT_POSSIBLE);
        Check.due("fail(NONE) while off", vault.fail(NONE), SettingsVault.NOT_POSSIBLE);
        Check.due("fail(201) while off", vault.fail(201), SettingsVault.BAD_VALUE);
        vault.start();
        Check.due("not set behind a start", vault.fail(1), 0);
        vault.start();
        Check.due("nor if it was set ahead of it", vault.state(9), NONE);
        Check.due("fail then", vault.fail(NONE), 0);
    }

    private static void failureInSet() {
        for (int writes = 0; writes < 3; writes++) {
            SettingsVault vault = Check.ready("+a99=10,+b9=1");
            vault.set(0, 50);
            vault.fail(writes);
            Check.due("set failing behind " + writes, vault.set(0, 60), writes);
            Check.due("off", vault.state(0), 0);
            Check.due("get", vault.get(0), SettingsVault.NOT_POSSIBLE);
            Check.due("active", vault.state(1), 0);
            Check.due("room", vault.state(4), 14);
            Check.due("changed", vault.state(7), 1);
            Check.due("writes", vault.page(0, 0), 6 + writes);
            Check.due("start", vault.start(), 0);
            Check.due("old value", vault.get(0), 50);
            Check.due("old record", vault.record(0), 3);
            Check.due("bad records", vault.state(5), writes == 0 ? 0 : 1);
            Check.due("room then", vault.state(4), writes == 0 ? 14 : 13);
            Check.due("set again", vault.set(0, 60), 3);
            Check.due("its place", vault.record(0), writes == 0 ? 6 : 9);
        }
    }

    private static void failureInFill() {
        for (int writes = 0; writes <= 9; writes++) {
            SettingsVault vault = Check.ready("+a99=10,+b9=1,+c9=0", "a*2");
            vault.set(0, 50);
            vault.set(2, 5);
            vault.fail(writes);
            Check.due("migrate failing behind " + writes, vault.migrate(1), writes);
            boolean off = writes < 9;
            Check.due("power", vault.state(0), off ? 0 : 1);
            Check.due("active", vault.state(1), off ? 0 : 1);
            Check.due("version", vault.state(2), off ? 0 : 1);
            Check.due("sequence", vault.state(3), off ? 0 : 1);
            Check.due("room", vault.state(4), 13);
            Check.due("erasures", vault.page(1, 1), 2);
            Check.due("writes", vault.page(1, 0), writes);
            Check.due("filled cells", vault.page(1, 5), writes);
            Check.due("start", vault.start(), off ? 0 : 1);
            Check.due("a", vault.get(0), off ? 50 : 100);
            Check.due("c", vault.get(2), 5);
        }
    }

    private static void failureInFactory() {
        for (int writes = 0; writes <= 3; writes++) {
            SettingsVault vault = Check.ready("+a99=10", "a*2");
            vault.set(0, 50);
            vault.compact();
            vault.fail(writes);
            Check.due("factory failing behind " + writes, vault.factory(1), writes);
            boolean off = writes < 3;
            Check.due("active", vault.state(1), off ? 1 : 0);
            Check.due("version", vault.state(2), off ? 0 : 1);
            Check.due("sequence", vault.state(3), off ? 1 : 0);
            Check.due("room", vault.state(4), off ? 14 : 15);
            Check.due("changed", vault.state(7), off ? 1 : 0);
            Check.due("page 0 erased", vault.page(0, 1), 2);
            Check.due("page 1 erased", vault.page(1, 1), 3);
            Check.due("page 0 filled", vault.page(0, 5), writes);
            Check.due("page 1 filled", vault.page(1, 5), 0);
            Check.due("start", vault.start(), off ? NONE : 0);
            Check.due("get", vault.get(0), off ? SettingsVault.NO_SUCH : 20);
        }
    }

    private static void promise05() {
        SettingsVault vault = Check.ready("+a99=10,+b9=1");
        Check.due("start while on", vault.start(), 0);
        vault.set(0, 1);
        vault.set(0, 2);
        vault.compact();
        Check.due("start on page 1", vault.start(), 1);
        Check.due("a", vault.get(0), 2);
        Check.due("b has its default", vault.get(1), 1);
        Check.due("a from its record", vault.record(0), 3);
        Check.due("b from none", vault.record(1), NONE);
        vault.fail(0);
        vault.set(0, 3);
        Check.due("start while off", vault.start(), 1);
        Check.due("on", vault.state(0), 1);
        vault.spoil(1, 0, 0);
        vault.spoil(0, 0, 0);
        Check.due("start without heads", vault.start(), NONE);
        int[] states = {1, NONE, NONE, NONE, 0, 0, 0, 0, 1, NONE};
        for (int what = 0; what < states.length; what++) {
            Check.due("then state(" + what + ")", vault.state(what), states[what]);
        }
        Check.due("get then", vault.get(0), SettingsVault.NO_SUCH);
    }

    private static void activePage() {
        int[][] sequences = {{0, 0, 0}, {0, 1, 1}, {1, 0, 0}, {0, 100, 1}, {0, 101, 0}, {0, 199, 0},
            {199, 0, 1}, {150, 50, 1}, {150, 51, 0}, {100, 0, 1}, {99, 0, 0}, {199, 99, 1}, {198, 99, 0}};
        for (int[] row : sequences) {
            SettingsVault vault = Check.vault("+a99=10", "a*2");
            Check.spoilHead(vault, 0, 0, row[0]);
            Check.spoilHead(vault, 1, 1, row[1]);
            Check.due("sequences " + row[0] + " and " + row[1], vault.start(), row[2]);
            Check.due("version", vault.state(2), row[2]);
            Check.due("sequence", vault.state(3), row[row[2]]);
            Check.due("get", vault.get(0), row[2] == 0 ? 10 : 20);
            vault.spoil(1 - row[2], 2, NONE);
            Check.due("alone", vault.start(), row[2]);
            vault.spoil(row[2], 2, NONE);
            Check.due("none", vault.start(), NONE);
        }
        SettingsVault vault = Check.vault("+a99=10");
        Check.spoilHead(vault, 1, 0, 199);
        Check.due("page 1 alone", vault.start(), 1);
        Check.due("compact to sequence 0", vault.compact(), 3);
        Check.due("active", vault.state(1), 0);
        Check.due("sequence", vault.state(3), 0);
        Check.due("start then", vault.start(), 0);
    }

    private static void heads() {
        SettingsVault vault = Check.vault("+a99=10", "a*2");
        Check.spoilHead(vault, 0, 2, 5);
        Check.due("no such version", vault.start(), NONE);
        Check.due("define it", Check.define(vault, "a/2"), 2);
        Check.due("such a version", vault.start(), 0);
        Check.due("its version", vault.state(2), 2);
        Check.spoilHead(vault, 0, 0, 200);
        Check.due("sequence 200", vault.start(), NONE);
        Check.spoilHead(vault, 0, 0, 199);
        Check.due("sequence 199", vault.start(), 0);
        Check.spoilHead(vault, 0, -1, 3);
        Check.due("version -1", vault.start(), NONE);
        Check.spoilHead(vault, 0, 0, 3);
        for (int i = 0; i < 3; i++) {
            int before = vault.spoil(0, i, NONE);
            Check.due("head cell erased " + i, vault.start(), NONE);
            vault.spoil(0, i, before + 1);
            Check.due("head cell one more " + i, vault.start(), NONE);
            vault.spoil(0, i, before);
            Check.due("head cell right " + i, vault.start(), 0);
        }
        Check.due("a head with the check 0", Check.headCheck(0, 181), 0);
        Check.spoilHead(vault, 0, 0, 181);
        Check.due("it is good", vault.start(), 0);
        // The check would fit if the erased cell counted as the number that tells that it is erased.
        Check.spoilThree(vault, 0, 0, 200, NONE, Check.headCheck(0, NONE));
        Check.due("an erased sequence", vault.start(), NONE);
    }

    private static void records() {
        SettingsVault vault = Check.ready("+a99=10,+c9=1", "a*2,+b3=3");
        Check.spoilRecord(vault, 0, 3, 0, 99, 0);
        Check.spoilRecord(vault, 0, 6, 0, 100, 0);
        Check.spoilRecord(vault, 0, 9, 1, 0, 0);
        Check.spoilRecord(vault, 0, 12, 2, 9, 1);
        Check.spoilRecord(vault, 0, 15, 2, 0, 0);
        Check.spoilRecord(vault, 0, 18, -1, 0, 0);
        Check.spoilRecord(vault, 0, 21, 10, 0, 0);
        Check.spoilRecord(vault, 0, 24, 0, 5, 0);
        Check.spoilRecord(vault, 0, 27, 0, 6, 0);
        vault.spoil(0, 28, NONE);
        Check.spoilRecord(vault, 0, 30, 0, 7, 0);
        vault.spoil(0, 32, NONE);
        // An erased first cell ends the reading, whatever stands behind it.
        Check.spoilRecord(vault, 0, 33, 0, 8, 0);
        vault.spoil(0, 33, NONE);
        Check.spoilRecord(vault, 0, 36, 0, 9, 0);
        Check.due("start", vault.start(), 0);
        Check.due("a", vault.get(0), 5);
        Check.due("its record", vault.record(0), 24);
        Check.due("c", vault.get(2), 0);
        Check.due("its record", vault.record(2), 15);
        Check.due("bad", vault.state(5), 7);
        Check.due("room", vault.state(4), 5);
        Check.due("set over spoiled cells", vault.set(0, 33), 3);
        Check.dueCells("written over", vault, 0, 33, 1, 33, Check.recordCheck(0, 33, 0));
        Check.due("start then", vault.start(), 0);
        Check.due("what was spoiled behind is read", vault.get(0), 9);
        for (int index = 3; index < 48; index += 3) {
            Check.spoilThree(vault, 0, index, 255, 255, 255);
        }
        Check.due("start on a full page", vault.start(), 0);
        Check.due("all bad", vault.state(5), 15);
        Check.due("no room", vault.state(4), 0);
        Check.due("set goes to the other page", vault.set(0, 1), 6);
        Check.due("bad ones of the latest start stay", vault.state(5), 15);
    }

    private static void recordWithCheckZero() {
        SettingsVault vault = Check.ready("+e99=0");
        Check.due("set", vault.set(4, 42), 3);
        Check.due("its check", vault.cell(0, 5), 0);
        Check.due("start", vault.start(), 0);
        Check.due("it is good", vault.get(4), 42);
        Check.due("its place", vault.record(4), 3);
    }
}
