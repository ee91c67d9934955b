/** Promises 4 and 5: the power, and what is found at a start. */
public final class PowerTest extends Check {
    public static void main(String[] args) {
        promise04();
        promise04errors();
        failureInSet();
        failureInFill();
        failureInFactory();
        promise05();
        activePage();
        heads();
        records();
        recordWithCheckZero();
        end();
    }

    private static void promise04() {
        SettingsVault vault = ready("+a99=10");
        due("fail(4)", vault.fail(4), 0);
        due("state(9)", vault.state(9), 4);
        due("fail(5) again", vault.fail(5), 1);
        due("set", vault.set(0, 1), 3);
        due("state(9) behind 3 writes", vault.state(9), 2);
        due("fail(NONE)", vault.fail(NONE), 1);
        due("fail(NONE) again", vault.fail(NONE), 0);
        due("state(9) then", vault.state(9), NONE);
        due("fail(200)", vault.fail(200), 0);
        due("state(9) then", vault.state(9), 200);
        due("fail(0)", vault.fail(0), 1);
        due("state(9) then", vault.state(9), 0);
        due("fail(3) over 0", vault.fail(3), 1);
        due("a set with just enough power", vault.set(0, 2), 3);
        due("the power is still on", vault.state(0), 1);
        due("no write left", vault.state(9), 0);
        due("a set without writing", vault.set(0, 2), 0);
        due("the power is on even then", vault.state(0), 1);
        due("get", vault.get(0), 2);
        due("the next write fails", vault.set(0, 3), 0);
        due("the power is off", vault.state(0), 0);
        due("state(9) while off", vault.state(9), NONE);
    }

    private static void promise04errors() {
        SettingsVault vault = ready("+a99=10");
        for (int writes : new int[] {Integer.MIN_VALUE, -7, -5, -1, 201, Integer.MAX_VALUE}) {
            due("fail(" + writes + ")", vault.fail(writes), BAD_VALUE);
        }
        due("nothing was set", vault.state(9), NONE);
        vault.fail(0);
        vault.set(0, 1);
        due("fail(1) while off", vault.fail(1), NOT_POSSIBLE);
        due("fail(NONE) while off", vault.fail(NONE), NOT_POSSIBLE);
        due("fail(201) while off", vault.fail(201), BAD_VALUE);
        vault.start();
        due("not set behind a start", vault.fail(1), 0);
        vault.start();
        due("nor if it was set ahead of it", vault.state(9), NONE);
        due("fail then", vault.fail(NONE), 0);
    }

    private static void failureInSet() {
        for (int writes = 0; writes < 3; writes++) {
            SettingsVault vault = ready("+a99=10,+b9=1");
            vault.set(0, 50);
            vault.fail(writes);
            due("set failing behind " + writes, vault.set(0, 60), writes);
            due("off", vault.state(0), 0);
            due("get", vault.get(0), NOT_POSSIBLE);
            due("active", vault.state(1), 0);
            due("room", vault.state(4), 14);
            due("changed", vault.state(7), 1);
            due("writes", vault.page(0, 0), 6 + writes);
            due("start", vault.start(), 0);
            due("old value", vault.get(0), 50);
            due("old record", vault.record(0), 3);
            due("bad records", vault.state(5), writes == 0 ? 0 : 1);
            due("room then", vault.state(4), writes == 0 ? 14 : 13);
            due("set again", vault.set(0, 60), 3);
            due("its place", vault.record(0), writes == 0 ? 6 : 9);
        }
    }

    private static void failureInFill() {
        for (int writes = 0; writes <= 9; writes++) {
            SettingsVault vault = ready("+a99=10,+b9=1,+c9=0", "a*2");
            vault.set(0, 50);
            vault.set(2, 5);
            vault.fail(writes);
            due("migrate failing behind " + writes, vault.migrate(1), writes);
            boolean off = writes < 9;
            due("power", vault.state(0), off ? 0 : 1);
            due("active", vault.state(1), off ? 0 : 1);
            due("version", vault.state(2), off ? 0 : 1);
            due("sequence", vault.state(3), off ? 0 : 1);
            due("room", vault.state(4), 13);
            due("erasures", vault.page(1, 1), 2);
            due("writes", vault.page(1, 0), writes);
            due("filled cells", vault.page(1, 5), writes);
            due("start", vault.start(), off ? 0 : 1);
            due("a", vault.get(0), off ? 50 : 100);
            due("c", vault.get(2), 5);
        }
    }

    private static void failureInFactory() {
        for (int writes = 0; writes <= 3; writes++) {
            SettingsVault vault = ready("+a99=10", "a*2");
            vault.set(0, 50);
            vault.compact();
            vault.fail(writes);
            due("factory failing behind " + writes, vault.factory(1), writes);
            boolean off = writes < 3;
            due("active", vault.state(1), off ? 1 : 0);
            due("version", vault.state(2), off ? 0 : 1);
            due("sequence", vault.state(3), off ? 1 : 0);
            due("room", vault.state(4), off ? 14 : 15);
            due("changed", vault.state(7), off ? 1 : 0);
            due("page 0 erased", vault.page(0, 1), 2);
            due("page 1 erased", vault.page(1, 1), 3);
            due("page 0 filled", vault.page(0, 5), writes);
            due("page 1 filled", vault.page(1, 5), 0);
            due("start", vault.start(), off ? NONE : 0);
            due("get", vault.get(0), off ? NO_SUCH : 20);
        }
    }

    private static void promise05() {
        SettingsVault vault = ready("+a99=10,+b9=1");
        due("start while on", vault.start(), 0);
        vault.set(0, 1);
        vault.set(0, 2);
        vault.compact();
        due("start on page 1", vault.start(), 1);
        due("a", vault.get(0), 2);
        due("b has its default", vault.get(1), 1);
        due("a from its record", vault.record(0), 3);
        due("b from none", vault.record(1), NONE);
        vault.fail(0);
        vault.set(0, 3);
        due("start while off", vault.start(), 1);
        due("on", vault.state(0), 1);
        vault.spoil(1, 0, 0);
        vault.spoil(0, 0, 0);
        due("start without heads", vault.start(), NONE);
        dueStates("no head", vault, 0, 1, NONE, NONE, NONE, 0, 0, 0, 0, 1, NONE);
        due("get then", vault.get(0), NO_SUCH);
    }

    private static void activePage() {
        int[][] sequences = {{0, 0, 0}, {0, 1, 1}, {1, 0, 0}, {0, 100, 1}, {0, 101, 0}, {0, 199, 0},
            {199, 0, 1}, {150, 50, 1}, {150, 51, 0}, {100, 0, 1}, {99, 0, 0}, {199, 99, 1}, {198, 99, 0}};
        for (int[] row : sequences) {
            SettingsVault vault = vault("+a99=10", "a*2");
            spoilHead(vault, 0, 0, row[0]);
            spoilHead(vault, 1, 1, row[1]);
            due("sequences " + row[0] + " and " + row[1], vault.start(), row[2]);
            due("version", vault.state(2), row[2]);
            due("sequence", vault.state(3), row[row[2]]);
            due("get", vault.get(0), row[2] == 0 ? 10 : 20);
            vault.spoil(1 - row[2], 2, NONE);
            due("alone", vault.start(), row[2]);
            vault.spoil(row[2], 2, NONE);
            due("none", vault.start(), NONE);
        }
        SettingsVault vault = vault("+a99=10");
        spoilHead(vault, 1, 0, 199);
        due("page 1 alone", vault.start(), 1);
        due("compact to sequence 0", vault.compact(), 3);
        due("active", vault.state(1), 0);
        due("sequence", vault.state(3), 0);
        due("start then", vault.start(), 0);
    }

    private static void heads() {
        SettingsVault vault = vault("+a99=10", "a*2");
        spoilHead(vault, 0, 2, 5);
        due("no such version", vault.start(), NONE);
        due("define it", define(vault, "a/2"), 2);
        due("such a version", vault.start(), 0);
        due("its version", vault.state(2), 2);
        spoilHead(vault, 0, 0, 200);
        due("sequence 200", vault.start(), NONE);
        spoilHead(vault, 0, 0, 199);
        due("sequence 199", vault.start(), 0);
        spoilHead(vault, 0, -1, 3);
        due("version -1", vault.start(), NONE);
        spoilHead(vault, 0, 0, 3);
        for (int i = 0; i < 3; i++) {
            int before = vault.spoil(0, i, NONE);
            due("head cell erased " + i, vault.start(), NONE);
            vault.spoil(0, i, before + 1);
            due("head cell one more " + i, vault.start(), NONE);
            vault.spoil(0, i, before);
            due("head cell right " + i, vault.start(), 0);
        }
        due("a head with the check 0", headCheck(0, 181), 0);
        spoilHead(vault, 0, 0, 181);
        due("it is good", vault.start(), 0);
        // The check would fit if the erased cell counted as the number that tells that it is erased.
        spoilThree(vault, 0, 0, 200, NONE, headCheck(0, NONE));
        due("an erased sequence", vault.start(), NONE);
    }

    private static void records() {
        SettingsVault vault = ready("+a99=10,+c9=1", "a*2,+b3=3");
        spoilRecord(vault, 0, 3, 0, 99, 0);
        spoilRecord(vault, 0, 6, 0, 100, 0);
        spoilRecord(vault, 0, 9, 1, 0, 0);
        spoilRecord(vault, 0, 12, 2, 9, 1);
        spoilRecord(vault, 0, 15, 2, 0, 0);
        spoilRecord(vault, 0, 18, -1, 0, 0);
        spoilRecord(vault, 0, 21, 10, 0, 0);
        spoilRecord(vault, 0, 24, 0, 5, 0);
        spoilRecord(vault, 0, 27, 0, 6, 0);
        vault.spoil(0, 28, NONE);
        spoilRecord(vault, 0, 30, 0, 7, 0);
        vault.spoil(0, 32, NONE);
        // An erased first cell ends the reading, whatever stands behind it.
        spoilRecord(vault, 0, 33, 0, 8, 0);
        vault.spoil(0, 33, NONE);
        spoilRecord(vault, 0, 36, 0, 9, 0);
        due("start", vault.start(), 0);
        due("a", vault.get(0), 5);
        due("its record", vault.record(0), 24);
        due("c", vault.get(2), 0);
        due("its record", vault.record(2), 15);
        due("bad", vault.state(5), 7);
        due("room", vault.state(4), 5);
        due("set over spoiled cells", vault.set(0, 33), 3);
        dueCells("written over", vault, 0, 33, 1, 33, recordCheck(0, 33, 0));
        due("start then", vault.start(), 0);
        due("what was spoiled behind is read", vault.get(0), 9);
        for (int index = 3; index < 48; index += 3) {
            spoilThree(vault, 0, index, 255, 255, 255);
        }
        due("start on a full page", vault.start(), 0);
        due("all bad", vault.state(5), 15);
        due("no room", vault.state(4), 0);
        due("set goes to the other page", vault.set(0, 1), 6);
        due("bad ones of the latest start stay", vault.state(5), 15);
    }

    private static void recordWithCheckZero() {
        SettingsVault vault = ready("+e99=0");
        due("set", vault.set(4, 42), 3);
        due("its check", vault.cell(0, 5), 0);
        due("start", vault.start(), 0);
        due("it is good", vault.get(4), 42);
        due("its place", vault.record(4), 3);
    }
}
