/** Promises 21 and 22: images. */
public final class ImagesTest {
    private static final int NONE = SettingsVault.NONE;

    public static void main(String[] args) {
        promise21();
        promise22();
        promise22stays();
        promise22power();
        Check.end();
    }

    private static void promise21() {
        SettingsVault vault = Check.vault("+a99=10,+b9=1");
        for (int image : new int[] {Integer.MIN_VALUE, -1, 2, Integer.MAX_VALUE}) {
            Check.due("keep(" + image + ")", vault.keep(image), SettingsVault.BAD_VALUE);
            Check.due("back(" + image + ")", vault.back(image), SettingsVault.BAD_VALUE);
        }
        Check.due("nothing kept", vault.back(0), SettingsVault.NOT_POSSIBLE);
        Check.due("keep without a page", vault.keep(0), NONE);
        Check.due("nothing kept in 1", vault.back(1), SettingsVault.NOT_POSSIBLE);
        vault.factory(0);
        Check.due("back to no page", vault.back(0), NONE);
        Check.due("get", vault.get(0), SettingsVault.NO_SUCH);
        Check.due("no cell", vault.cell(0, 0), NONE);
        Check.due("no write", vault.state(10), 0);
        vault.factory(0);
        vault.compact();
        Check.due("keep on page 1", vault.keep(0), 1);
        vault.factory(0);
        Check.due("in place of what was kept", vault.back(0), 1);
        Check.due("active", vault.state(1), 1);
    }

    private static void promise22() {
        SettingsVault vault = Check.ready("+a99=10,+b9=1", "a*2,b>c");
        vault.set(0, 50);
        vault.spoil(0, 7, 7);
        vault.keep(0);
        vault.migrate(1);
        vault.set(2, 9);
        vault.fail(20);
        vault.keep(1);
        vault.factory(0);
        Check.due("back(0)", vault.back(0), 0);
        int[] states = {1, 0, 0, 0, 14, 0, 2, 1, 2, NONE, 6, 2, 0};
        for (int what = 0; what < states.length; what++) {
            Check.due("state(" + what + ")", vault.state(what), states[what]);
        }
        Check.due("a", vault.get(0), 50);
        Check.due("its record", vault.record(0), 3);
        Check.due("a spoiled cell", vault.cell(0, 7), 7);
        Check.due("page 1", vault.page(1, 5), 0);
        vault.set(0, 51);
        Check.due("back(0) again: it keeps it", vault.back(0), 0);
        Check.due("a", vault.get(0), 50);
        Check.due("the next record", vault.set(0, 52), 3);
        Check.due("its place", vault.record(0), 6);
        Check.due("back(1)", vault.back(1), 1);
        Check.due("version", vault.state(2), 1);
        Check.due("sequence", vault.state(3), 1);
        Check.due("the failure", vault.state(9), 20);
        Check.due("c", vault.get(2), 9);
        Check.due("its record", vault.record(2), 6);
        Check.due("start", vault.start(), 1);
        Check.due("a", vault.get(0), 100);
    }

    private static void promise22stays() {
        SettingsVault vault = Check.ready("+a99=10");
        vault.keep(0);
        Check.due("define", Check.define(vault, "a*2"), 1);
        vault.put(Check.code("a<"));
        vault.back(0);
        Check.due("versions stay", vault.state(8), 2);
        Check.due("the layout stays", vault.layout(1, 0, 0), 198);
        Check.due("the pad stays", vault.state(12), 2);
        Check.due("migrate", vault.migrate(1), 3);
        Check.due("the images stay", vault.back(0), 0);
        vault.keep(1);
        vault.spoil(0, 0, 1);
        vault.back(0);
        Check.due("images share nothing", vault.back(1), 0);
        Check.due("cell", vault.cell(0, 0), 200);
    }

    private static void promise22power() {
        SettingsVault vault = Check.ready("+a99=10");
        vault.fail(2);
        vault.set(0, 20);
        Check.due("keep while off", vault.keep(1), 0);
        vault.start();
        Check.due("bad records", vault.state(5), 1);
        vault.keep(0);
        Check.due("back to off", vault.back(1), 0);
        Check.due("off", vault.get(0), SettingsVault.NOT_POSSIBLE);
        Check.due("bad records then", vault.state(5), 0);
        Check.due("back while off", vault.back(0), 0);
        Check.due("on", vault.get(0), 10);
        Check.due("bad records", vault.state(5), 1);
        Check.due("room", vault.state(4), 14);
    }
}
