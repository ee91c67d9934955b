/** Promises 21 and 22: images. */
public final class ImagesTest extends Check {
    public static void main(String[] args) {
        promise21();
        promise22();
        promise22stays();
        promise22power();
        end();
    }

    private static void promise21() {
        SettingsVault vault = vault("+a99=10,+b9=1");
        for (int image : new int[] {Integer.MIN_VALUE, -1, 2, Integer.MAX_VALUE}) {
            due("keep(" + image + ")", vault.keep(image), BAD_VALUE);
            due("back(" + image + ")", vault.back(image), BAD_VALUE);
        }
        due("nothing kept", vault.back(0), NOT_POSSIBLE);
        due("keep without a page", vault.keep(0), NONE);
        due("nothing kept in 1", vault.back(1), NOT_POSSIBLE);
        vault.factory(0);
        due("back to no page", vault.back(0), NONE);
        due("get", vault.get(0), NO_SUCH);
        due("no cell", vault.cell(0, 0), NONE);
        due("no write", vault.state(10), 0);
        vault.factory(0);
        vault.compact();
        due("keep on page 1", vault.keep(0), 1);
        vault.factory(0);
        due("in place of what was kept", vault.back(0), 1);
        due("active", vault.state(1), 1);
    }

    private static void promise22() {
        SettingsVault vault = ready("+a99=10,+b9=1", "a*2,b>c");
        vault.set(0, 50);
        vault.spoil(0, 7, 7);
        vault.keep(0);
        vault.migrate(1);
        vault.set(2, 9);
        vault.fail(20);
        vault.keep(1);
        vault.factory(0);
        due("back(0)", vault.back(0), 0);
        dueStates("back(0)", vault, 0, 1, 0, 0, 0, 14, 0, 2, 1, 2, NONE, 6, 2, 0);
        due("a", vault.get(0), 50);
        due("its record", vault.record(0), 3);
        due("a spoiled cell", vault.cell(0, 7), 7);
        due("page 1", vault.page(1, 5), 0);
        vault.set(0, 51);
        due("back(0) again: it keeps it", vault.back(0), 0);
        due("a", vault.get(0), 50);
        due("the next record", vault.set(0, 52), 3);
        due("its place", vault.record(0), 6);
        due("back(1)", vault.back(1), 1);
        due("version", vault.state(2), 1);
        due("sequence", vault.state(3), 1);
        due("the failure", vault.state(9), 20);
        due("c", vault.get(2), 9);
        due("its record", vault.record(2), 6);
        due("start", vault.start(), 1);
        due("a", vault.get(0), 100);
    }

    private static void promise22stays() {
        SettingsVault vault = ready("+a99=10");
        vault.keep(0);
        due("define", define(vault, "a*2"), 1);
        vault.put(code("a<"));
        vault.back(0);
        due("versions stay", vault.state(8), 2);
        due("the layout stays", vault.layout(1, 0, 0), 198);
        due("the pad stays", vault.state(12), 2);
        due("migrate", vault.migrate(1), 3);
        due("the images stay", vault.back(0), 0);
        vault.keep(1);
        vault.spoil(0, 0, 1);
        vault.back(0);
        due("images share nothing", vault.back(1), 0);
        due("cell", vault.cell(0, 0), 200);
    }

    private static void promise22power() {
        SettingsVault vault = ready("+a99=10");
        vault.fail(2);
        vault.set(0, 20);
        due("keep while off", vault.keep(1), 0);
        vault.start();
        due("bad records", vault.state(5), 1);
        vault.keep(0);
        due("back to off", vault.back(1), 0);
        due("off", vault.get(0), NOT_POSSIBLE);
        due("bad records then", vault.state(5), 0);
        due("back while off", vault.back(0), 0);
        due("on", vault.get(0), 10);
        due("bad records", vault.state(5), 1);
        due("room", vault.state(4), 14);
    }
}
