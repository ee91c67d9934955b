/** The sentences of the promises 21 and 22 that name a boundary case. */
public final class ImageEdgesTest extends Check {
    private static final int[] NO_IMAGES = {Integer.MIN_VALUE, NONE, -1, 2, Integer.MAX_VALUE};

    public static void main(String[] args) {
        sentences(ImageEdgesTest.class);
    }

    // ---- promise 21: keep

    @Sentence("21 keep: Keeps everything [..] in an image")
    static void keepsEverything() {
        SettingsVault vault = ready("+a9=1,+b9=1", "a*2");
        spoilRecord(vault, 0, 3, 0, 5, 0);
        spoilRecord(vault, 0, 6, 0, 10, 0);
        vault.spoil(0, 47, 0);
        vault.spoil(1, 0, 255);
        vault.start();
        vault.set(1, 7);
        vault.fail(200);
        int[] before = look(vault);
        vault.keep(1);
        vault.migrate(1);
        vault.factory(1);
        spoilAll(vault, 1, 7);
        vault.start();
        due("back", vault.back(1), 0);
        dueUnchanged(vault, before);
    }

    @Sentence("21 keep: everything [..] [also that the power is off, or what is left until it fails]")
    static void keepsThePower() {
        SettingsVault vault = ready("+a9=1");
        vault.set(0, 5);
        vault.fail(3);
        vault.keep(0);
        vault.set(0, 6);
        vault.set(0, 7);
        dueStates("off", vault, 0, 0);
        vault.keep(1);
        vault.start();
        due("back to off", vault.back(1), 0);
        dueStates("off again", vault, 0, 0, 0, 0, 0, 13);
        due("get", vault.get(0), NOT_POSSIBLE);
        due("back to 3 writes left", vault.back(0), 0);
        dueStates("on", vault, 0, 1);
        due("left", vault.state(9), 3);
        due("value", vault.get(0), 5);
        due("three writes", vault.set(0, 6), 3);
        due("and no more", vault.set(0, 7), 0);
    }

    @Sentence("21 keep: except the layouts, the pad and the images")
    static void keepsNoLayouts() {
        SettingsVault vault = ready("+a9=1");
        pad(vault, "a*2");
        vault.keep(0);
        vault.define();
        pad(vault, "a*2,a");
        vault.set(0, 5);
        vault.keep(1);
        due("back", vault.back(0), 0);
        due("versions", vault.state(8), 2);
        due("the layout", vault.layout(1, 0, 0), 18);
        due("the pad", vault.state(12), 5);
        due("the other image", vault.back(1), 0);
        due("its value", vault.get(0), 5);
        due("the pad then", vault.state(12), 5);
    }

    @Sentence("21 keep: in place of what was kept there")
    static void keepsTheLatest() {
        SettingsVault vault = ready("+a9=1");
        vault.set(0, 5);
        vault.keep(0);
        vault.keep(1);
        vault.set(0, 6);
        vault.keep(0);
        vault.set(0, 7);
        vault.back(0);
        due("the latest", vault.get(0), 6);
        vault.back(1);
        due("the other image", vault.get(0), 5);
    }

    @Sentence("21 keep: image: 0 or 1")
    static void keepsTwoImages() {
        SettingsVault vault = ready("+a9=1");
        due("0", vault.keep(0), 0);
        vault.set(0, 5);
        due("1", vault.keep(1), 0);
        vault.back(0);
        due("0 then", vault.get(0), 1);
        vault.back(1);
        due("1 then", vault.get(0), 5);
    }

    @Sentence("21 keep: Returns the active page, NONE if there is none")
    static void keepReturns() {
        SettingsVault vault = vault("+a9=1");
        due("none", vault.keep(0), NONE);
        vault.factory(0);
        due("page 0", vault.keep(0), 0);
        vault.compact();
        due("page 1", vault.keep(0), 1);
        powerOff(vault);
        due("page 1, while off", vault.keep(1), 1);
    }

    @Sentence("21 keep: BAD_VALUE if there is no such image")
    static void keepNoImage() {
        SettingsVault vault = ready("+a9=1");
        for (int image : NO_IMAGES) {
            due("keep " + image, vault.keep(image), BAD_VALUE);
        }
        due("0", vault.keep(0), 0);
        due("1", vault.keep(1), 0);
    }

    @Sentence("Conventions for 21 keep: A call that returns an error changes nothing.")
    static void keepErrorsChangeNothing() {
        SettingsVault vault = ready("+a9=1");
        int[] before = look(vault);
        for (int image : NO_IMAGES) {
            due("keep", vault.keep(image), BAD_VALUE);
        }
        dueUnchanged(vault, before);
        due("nothing kept in 0", vault.back(0), NOT_POSSIBLE);
        due("nothing kept in 1", vault.back(1), NOT_POSSIBLE);
        vault.keep(0);
        vault.keep(1);
        vault.set(0, 5);
        for (int image : NO_IMAGES) {
            due("keep", vault.keep(image), BAD_VALUE);
        }
        vault.back(0);
        due("what was kept in 0", vault.get(0), 1);
        vault.set(0, 5);
        vault.back(1);
        due("what was kept in 1", vault.get(0), 1);
    }

    // ---- promise 22: back

    @Sentence("22 back: Brings back what an image keeps; it keeps it.")
    static void backAgain() {
        SettingsVault vault = ready("+a9=1");
        vault.set(0, 5);
        vault.keep(0);
        for (int i = 0; i < 3; i++) {
            vault.set(0, 6);
            vault.compact();
            vault.spoil(0, 4, 7);
            due("back " + i, vault.back(0), 0);
            due("value", vault.get(0), 5);
            due("cell", vault.cell(0, 4), 5);
            dueStates("as it was", vault, 1, 0, 0, 0, 14);
            duePage("page 1 as it was", vault, 1, 0, 1, 0, 0, 0, 0);
        }
    }

    @Sentence("22 back: (Layouts are never taken away, so all versions that it needs are there.)")
    static void backInAllVersions() {
        SettingsVault vault = vault("+a9=1", "a*2", "a*2", "a*2", "a*2", "-a,+b9=3");
        vault.factory(5);
        vault.keep(0);
        vault.factory(0);
        due("back to the last version", vault.back(0), 0);
        due("version", vault.state(2), 5);
        due("value", vault.get(1), 3);
        due("versions", vault.state(8), 6);
        vault = vault("+a9=1");
        vault.keep(0);
        define(vault, "a*2");
        vault.factory(1);
        due("back to no active page", vault.back(0), NONE);
        due("the later version stays", vault.factory(1), 3);
    }

    @Sentence("22 back: image: 0 or 1")
    static void backFromTwoImages() {
        SettingsVault vault = ready("+a9=1");
        vault.keep(1);
        due("1", vault.back(1), 0);
        due("0, not kept", vault.back(0), NOT_POSSIBLE);
        vault.keep(0);
        due("0", vault.back(0), 0);
    }

    @Sentence("22 back: Returns the active page then, NONE if there is none")
    static void backReturns() {
        SettingsVault vault = vault("+a9=1");
        vault.keep(0);
        vault.factory(0);
        vault.compact();
        vault.keep(1);
        vault.compact();
        due("none", vault.back(0), NONE);
        due("none indeed", vault.state(1), NONE);
        due("page 1", vault.back(1), 1);
        due("page 1 indeed", vault.state(1), 1);
        vault.compact();
        vault.keep(0);
        due("page 0", vault.back(0), 0);
    }

    @Sentence("22 back: BAD_VALUE if there is no such image")
    static void backNoImage() {
        SettingsVault vault = ready("+a9=1");
        vault.keep(0);
        vault.keep(1);
        for (int image : NO_IMAGES) {
            due("back " + image, vault.back(image), BAD_VALUE);
        }
        due("0", vault.back(0), 0);
        due("1", vault.back(1), 0);
    }

    @Sentence("22 back: NOT_POSSIBLE if nothing was kept in it")
    static void backNotKept() {
        SettingsVault vault = ready("+a9=1");
        due("0", vault.back(0), NOT_POSSIBLE);
        due("1", vault.back(1), NOT_POSSIBLE);
        vault.keep(0);
        due("0 then", vault.back(0), 0);
        due("1 then", vault.back(1), NOT_POSSIBLE);
    }

    @Sentence("Conventions for 22 back: the first one that applies is returned")
    static void backOrder() {
        for (int image : NO_IMAGES) {
            due("no image ahead of nothing kept", new SettingsVault().back(image), BAD_VALUE);
        }
    }

    @Sentence("Conventions for 22 back: A call that returns an error changes nothing.")
    static void backErrorsChangeNothing() {
        SettingsVault vault = ready("+a9=1");
        vault.keep(0);
        vault.set(0, 5);
        int[] before = look(vault);
        for (int image : NO_IMAGES) {
            due("no image", vault.back(image), BAD_VALUE);
        }
        due("nothing kept", vault.back(1), NOT_POSSIBLE);
        dueUnchanged(vault, before);
    }
}
