/** Promises 11 to 13: cells and pages. */
public final class CellsTest extends Check {
    private static final int[][] NO_CELLS = {{-1, 0}, {2, 0}, {0, -1}, {1, 48}, {Integer.MIN_VALUE, 0},
        {Integer.MAX_VALUE, 0}, {0, Integer.MIN_VALUE}, {0, Integer.MAX_VALUE}, {-1, 48}};

    public static void main(String[] args) {
        promise11();
        promise12();
        promise13();
        promise13records();
        end();
    }

    private static void promise11() {
        SettingsVault vault = ready("+a99=10");
        for (int[] row : NO_CELLS) {
            due("cell(" + row[0] + ", " + row[1] + ")", vault.cell(row[0], row[1]), NO_SUCH);
        }
        dueCells("head", vault, 0, 0, 200, 0, headCheck(0, 0), NONE);
        vault.fail(1);
        due("set", vault.set(0, 20), 1);
        due("a cell while off", vault.cell(0, 3), 1);
        due("the next while off", vault.cell(0, 4), NONE);
        vault.spoil(1, 47, 0);
        due("0 is not erased", vault.cell(1, 47), 0);
        due("the other page", vault.cell(0, 47), NONE);
    }

    private static void promise12() {
        SettingsVault vault = ready("+a99=10");
        for (int[] row : NO_CELLS) {
            due("spoil(" + row[0] + ", " + row[1] + ")", vault.spoil(row[0], row[1], 256), NO_SUCH);
        }
        for (int value : new int[] {Integer.MIN_VALUE, -7, -5, -1, 256, Integer.MAX_VALUE}) {
            due("value " + value, vault.spoil(0, 0, value), BAD_VALUE);
        }
        due("nothing changed", vault.spoil(0, 0, 255), 200);
        due("what it was", vault.spoil(0, 0, NONE), 255);
        due("erased", vault.spoil(0, 0, 0), NONE);
        due("0", vault.spoil(0, 0, 200), 0);
        due("no writes", vault.state(10), 3);
        vault.set(0, 20);
        vault.spoil(0, 4, 30);
        due("the value stays", vault.get(0), 20);
        due("the record stays", vault.record(0), 3);
        vault.spoil(0, 6, 1);
        due("the room stays", vault.state(4), 14);
        vault.fail(0);
        vault.set(0, 21);
        due("spoil while off", vault.spoil(0, 4, 20), 30);
        due("done", vault.cell(0, 4), 20);
        vault.spoil(0, 6, NONE);
        vault.start();
        due("get then", vault.get(0), 20);
        vault.fail(1);
        vault.spoil(0, 9, 9);
        due("it takes no write", vault.state(9), 1);
    }

    private static void promise13() {
        SettingsVault vault = ready("+a99=10");
        for (int page : new int[] {Integer.MIN_VALUE, -1, 2, Integer.MAX_VALUE}) {
            due("page(" + page + ")", vault.page(page, 6), NO_SUCH);
        }
        for (int what : new int[] {Integer.MIN_VALUE, -1, 6, Integer.MAX_VALUE}) {
            due("what " + what, vault.page(0, what), BAD_VALUE);
        }
        vault.set(0, 11);
        vault.compact();
        vault.set(0, 12);
        duePage("cells", vault, 0, 6, 1, 1, 1, 0, 6);
        duePage("cells", vault, 1, 9, 2, 1, 2, 0, 9);
        vault.compact();
        duePage("cells", vault, 0, 12, 2, 1, 1, 0, 6);
        vault.fail(2);
        vault.compact();
        duePage("cells", vault, 1, 11, 3, 0, 0, 0, 2);
        vault.spoil(1, 40, 0);
        vault.spoil(1, 3, NONE);
        duePage("cells", vault, 1, 11, 3, 0, 0, 0, 2);
    }

    private static void promise13records() {
        SettingsVault vault = ready("+a99=10", "a*2,+b9=1");
        spoilHead(vault, 1, 1, 50);
        spoilRecord(vault, 1, 3, 0, 198, 1);
        spoilRecord(vault, 1, 6, 0, 199, 1);
        spoilRecord(vault, 1, 9, 1, 9, 1);
        spoilRecord(vault, 1, 12, 1, 9, 0);
        spoilRecord(vault, 1, 15, 2, 0, 1);
        spoilRecord(vault, 1, 21, 0, 1, 1);
        duePage("cells", vault, 1, 0, 1, 1, 2, 3, 21);
        vault.spoil(1, 18, 0);
        duePage("cells", vault, 1, 0, 1, 1, 3, 4, 22);
        spoilHead(vault, 1, 0, 50);
        duePage("cells", vault, 1, 0, 1, 1, 0, 7, 22);
        spoilRecord(vault, 1, 18, 0, 99, 0);
        duePage("cells", vault, 1, 0, 1, 1, 1, 6, 24);
        spoilHead(vault, 1, 2, 50);
        duePage("cells", vault, 1, 0, 1, 0, 0, 0, 24);
        due("nothing is read", vault.state(5), 0);
        due("active", vault.state(1), 0);
        for (int index = 3; index < 48; index += 3) {
            spoilRecord(vault, 0, index, 0, 1, index == 45 ? 1 : 0);
        }
        duePage("cells", vault, 0, 3, 1, 1, 14, 1, 48);
    }
}
