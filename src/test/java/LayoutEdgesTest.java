/** The sentences of 'Layouts' and of the promises 2 and 3 that name a boundary case. */
public final class LayoutEdgesTest extends Check {
    private static final String TEN = "+a0=0,+b1=1,+c2=0,+d3=0,+e4=0,+f5=0,+g6=0,+h7=0,+i8=0,+j9=9";

    public static void main(String[] args) {
        sentences(LayoutEdgesTest.class);
    }

    /** Each of these as the first step behind a version. */
    private static void dueImpossible(String version, String... steps) {
        for (String step : steps) {
            SettingsVault vault = version.isEmpty() ? new SettingsVault() : vault(version);
            due("define " + step, define(vault, step), NOT_POSSIBLE);
        }
    }

    /** The value that a has behind a step, if it has this one, at most 255, ahead of it. */
    private static int stepped(String step, int value) {
        SettingsVault vault = ready("+a255=0", step);
        vault.set(0, value);
        int told = vault.ifMigrated(1, 0);
        vault.migrate(1);
        due("told ahead of " + step, told, vault.get(0));
        return told;
    }

    // ---- Layouts

    @Sentence("Layouts: There are up to 6 layouts, the versions 0 to 5.")
    static void sixVersions() {
        SettingsVault vault = vault("+a9=1", "a<8", "a<7", "a<6", "a<5", "a<4");
        due("versions", vault.state(8), 6);
        due("the first", vault.layout(0, 0, 0), 9);
        due("the last", vault.layout(5, 0, 0), 4);
        due("ahead of the first", vault.layout(-1, 0, 0), NO_SUCH);
        due("behind the last", vault.layout(6, 0, 0), NO_SUCH);
        due("a seventh", define(vault, "a<3"), TOO_MANY);
        due("still 6", vault.state(8), 6);
    }

    @Sentence("Layouts: A layout has settings, of the names a to j (0 to 9)")
    static void tenNames() {
        SettingsVault vault = ready(TEN);
        for (int name = 0; name < 10; name++) {
            due("greatest of " + name, vault.layout(0, name, 0), name);
        }
        due("settings", vault.state(6), 10);
        due("ahead of a", vault.layout(0, -1, 0), NO_SUCH);
        due("behind j", vault.layout(0, 10, 0), NO_SUCH);
        due("get j", vault.get(9), 9);
        due("get behind j", vault.get(10), NO_SUCH);
    }

    @Sentence("Layouts: each has a greatest value (0 to 255; the least one is 0)")
    static void greatestValues() {
        SettingsVault vault = ready("+a0=0,+b255=9");
        dueSetting(vault, 0, 0, 0, 0, NONE);
        dueSetting(vault, 0, 1, 255, 9, NONE);
        due("nothing but 0", vault.set(0, 1), BAD_VALUE);
        due("0", vault.set(0, 0), 0);
        due("0 of 255", vault.set(1, 0), 3);
        due("255", vault.set(1, 255), 3);
        due("below 0", vault.set(1, -1), BAD_VALUE);
        due("above 255", vault.set(1, 256), BAD_VALUE);
    }

    @Sentence("Layouts: a default (0 to its greatest value)")
    static void defaults() {
        SettingsVault vault = vault("+a9=0,+b9=9,+c255=255,+d0=0");
        dueSetting(vault, 0, 0, 9, 0, NONE);
        dueSetting(vault, 0, 1, 9, 9, NONE);
        dueSetting(vault, 0, 2, 255, 255, NONE);
        dueSetting(vault, 0, 3, 0, 0, NONE);
        dueImpossible("", "+a9=10", "+b0=1", "+c254=255");
    }

    @Sentence("Layouts: The version 0 is made from a layout without settings")
    static void versionZeroFromNothing() {
        dueImpossible("", "-a", "-j", "a>b", "a*2", "j/2", "a<0");
        due("ten added", vault(TEN).state(8), 1);
    }

    @Sentence("Layouts: each later one from the version before it")
    static void fromTheVersionBefore() {
        SettingsVault vault = vault("+a100=1", "-a,+b50=5", "b>a", "a*2", "a*2", "a/3");
        dueSetting(vault, 2, 0, 50, 5, 1);
        dueSetting(vault, 5, 0, 66, 6, 0);
        due("the first one stays", vault.layout(0, 0, 0), 100);
    }

    @Sentence("Layouts: by steps, one after the other")
    static void stepsInTheirOrder() {
        SettingsVault vault = vault("+a100=10,a*9,a/9,+b100=10,b/9,b*9");
        dueSetting(vault, 0, 0, 28, 10, NONE);
        dueSetting(vault, 0, 1, 99, 9, NONE);
    }

    @Sentence("Layouts: Adding a setting that is not there, with its greatest value and its default.")
    static void adding() {
        dueImpossible("+a9=1,+j8=0", "+a9=1", "+j8=0", "+b1=1,+b1=1");
        SettingsVault vault = vault("+a9=1,+j8=0", "-a,+a7=7,j>b,+j6=2");
        dueSetting(vault, 1, 0, 7, 7, NONE);
        dueSetting(vault, 1, 9, 6, 2, NONE);
    }

    @Sentence("Layouts: Dropping a setting that is there.")
    static void dropping() {
        dueImpossible("+a9=1,+j8=0", "-b", "-i", "-a,-a", "a>b,-a");
        SettingsVault vault = ready("+a9=1,+j8=0", "-a,-j");
        due("no a", vault.layout(1, 0, 0), NO_SUCH);
        due("no j", vault.layout(1, 9, 0), NO_SUCH);
        due("to a layout without settings", vault.migrate(1), 3);
        due("none", vault.state(6), 0);
    }

    @Sentence("Layouts: Renaming a setting that is there to a name that is not there.")
    static void renaming() {
        dueImpossible("+a9=1,+j8=0", "b>c", "a>j", "j>a", "a>a", "j>j", "b>b", "a>b,a>c");
        SettingsVault vault = vault("+a9=1,+j8=2", "a>e,j>a,e>j");
        dueSetting(vault, 1, 0, 8, 2, 9);
        dueSetting(vault, 1, 9, 9, 1, 0);
    }

    @Sentence("Layouts: Multiplying or dividing a setting that is there by a number from 2 to 9")
    static void factors() {
        dueImpossible("+a9=1", "b*2", "b/2", "-a,a*2");
        SettingsVault vault = vault("+a20=10,+b20=10,+c200=100,+d200=100", "a*2,b*9,c/2,d/9");
        dueSetting(vault, 1, 0, 40, 20, 0);
        dueSetting(vault, 1, 1, 180, 90, 1);
        dueSetting(vault, 1, 2, 100, 50, 2);
        dueSetting(vault, 1, 3, 22, 11, 3);
        for (String text : new String[] {"a*1", "a*0", "a/1", "a/0"}) {
            due("fault of " + text, fault(text), 2);
        }
    }

    @Sentence("Layouts: its values and its default are multiplied or divided, and so is its greatest value")
    static void factorsForAllThree() {
        SettingsVault vault = ready("+a50=7,+b50=7", "a*5,b/5");
        vault.set(0, 50);
        vault.set(1, 50);
        dueSetting(vault, 1, 0, 250, 35, 0);
        dueSetting(vault, 1, 1, 10, 1, 1);
        due("migrate", vault.migrate(1), 9);
        due("a", vault.get(0), 250);
        due("b", vault.get(1), 10);
    }

    @Sentence("Layouts: all three are 255 at most then")
    static void atMost255() {
        SettingsVault vault = vault("+a127=85,+b128=127,+c255=128,+d85=29", "a*2,b*2,c*2,d*9");
        dueSetting(vault, 1, 0, 254, 170, 0);
        dueSetting(vault, 1, 1, 255, 254, 1);
        dueSetting(vault, 1, 2, 255, 255, 2);
        dueSetting(vault, 1, 3, 255, 255, 3);
        due("85 * 3", stepped("a*3", 85), 255);
        due("86 * 3", stepped("a*3", 86), 255);
        due("127 * 2", stepped("a*2", 127), 254);
        due("128 * 2", stepped("a*2", 128), 255);
        due("255 * 9", stepped("a*9", 255), 255);
        due("28 * 9", stepped("a*9", 28), 252);
        due("29 * 9", stepped("a*9", 29), 255);
        due("0 * 9", stepped("a*9", 0), 0);
    }

    @Sentence("Conventions: Divisions are rounded down.")
    static void roundedDown() {
        SettingsVault vault = vault("+a255=17,+b8=1", "a/9,b/9");
        dueSetting(vault, 1, 0, 28, 1, 0);
        dueSetting(vault, 1, 1, 0, 0, 1);
        due("255 / 2", stepped("a/2", 255), 127);
        due("1 / 2", stepped("a/2", 1), 0);
        due("8 / 9", stepped("a/9", 8), 0);
        due("9 / 9", stepped("a/9", 9), 1);
        due("17 / 9", stepped("a/9", 17), 1);
        due("18 / 9", stepped("a/9", 18), 2);
        due("0 / 2", stepped("a/2", 0), 0);
    }

    @Sentence("Layouts: its greatest value, its values and its default are at most that then")
    static void limits() {
        SettingsVault vault = vault("+a9=5,+b9=5,+c9=5,+d9=5,+e9=5,+f9=5,+g9=5,+h9=5",
            "a<0,b<4,c<5,d<6,e<8,f<9,g<10,h<255");
        int[][] due = {{0, 0}, {4, 4}, {5, 5}, {6, 5}, {8, 5}, {9, 5}, {9, 5}, {9, 5}};
        for (int name = 0; name < due.length; name++) {
            dueSetting(vault, 1, name, due[name][0], due[name][1], name);
        }
        due("below the limit", stepped("a<60", 59), 59);
        due("at the limit", stepped("a<60", 60), 60);
        due("above the limit", stepped("a<60", 61), 60);
        due("limited to 0", stepped("a<0", 255), 0);
        due("limited to 255", stepped("a<255", 255), 255);
        dueImpossible("+a9=1", "b<0", "b<255");
    }

    @Sentence("Layouts: A step does to the values of a setting what it does to its default")
    static void stepsForValues() {
        String[] steps = {"b*3", "b/3", "b<20", "b>c", "b*3,b/2", "b/2,b*3", "b<40,b*7", "b>c,c<9"};
        int[] values = {123, 13, 20, 41, 61, 60, 255, 9};
        for (int i = 0; i < steps.length; i++) {
            int name = steps[i].indexOf('>') < 0 ? 1 : 2;
            due("default behind " + steps[i], vault("+b255=41", steps[i]).layout(1, name, 1), values[i]);
            SettingsVault vault = ready("+b255=0", steps[i]);
            vault.set(1, 41);
            vault.migrate(1);
            due("value behind " + steps[i], vault.get(name), values[i]);
        }
    }

    @Sentence("Layouts: an added one has its default as its value")
    static void addedValues() {
        SettingsVault vault = ready("+a50=10,+b50=10", "-a,+a9=3,+c0=0,+j255=255,+e10=4,e*2,b>d,+b8=8");
        vault.set(0, 50);
        vault.set(1, 40);
        due("migrate", vault.migrate(1), 6);
        int[] due = {3, 8, 0, 40, 8};
        for (int name = 0; name < due.length; name++) {
            due("value of " + name, vault.get(name), due[name]);
        }
        due("value of j", vault.get(9), 255);
        due("what a had is not had by it", vault.record(0), NONE);
    }

    @Sentence("Layouts: So, from the values of all settings in a version, those in the next version follow,"
        + " by its steps one after the other; they are the migrated values.")
    static void migratedValues() {
        SettingsVault vault = ready("+a255=9,+b255=8", "a*2,a/2", "a>c,b>a,c>b", "b/2,b*2", "a<70,-b,+b5=5", "b*9");
        vault.set(0, 131);
        vault.set(1, 99);
        int[][] due = {{127, 99}, {99, 127}, {99, 126}, {70, 5}, {70, 45}};
        for (int version = 1; version <= 5; version++) {
            for (int name = 0; name < 2; name++) {
                due("at once to " + version, vault.ifMigrated(version, name), due[version - 1][name]);
            }
        }
        for (int version = 1; version <= 5; version++) {
            vault.migrate(version);
            for (int name = 0; name < 2; name++) {
                due("step by step to " + version, vault.get(name), due[version - 1][name]);
            }
        }
    }

    // ---- promise 2: define

    @Sentence("2 define: Makes the next version by the steps of the pad, and empties the pad.")
    static void defineEmptiesThePad() {
        SettingsVault vault = new SettingsVault();
        pad(vault, "+a9=1," + "a<9,".repeat(18) + "-a");
        due("a pad of 80", vault.state(12), 80);
        due("define", vault.define(), 0);
        due("length", vault.state(12), 0);
        due("empty now", vault.define(), BAD_TEXT);
        due("the last step was done", vault.layout(0, 0, 0), NO_SUCH);
    }

    @Sentence("2 define: Returns its number")
    static void defineReturnsItsNumber() {
        SettingsVault vault = new SettingsVault();
        for (int version = 0; version < 6; version++) {
            due("define " + version, define(vault, version == 0 ? "+a9=1" : "a<8"), version);
        }
    }

    @Sentence("2 define: BAD_TEXT if the pad has a fault")
    static void defineBadText() {
        SettingsVault vault = new SettingsVault();
        due("an empty pad", vault.define(), BAD_TEXT);
        for (String text : new String[] {"-", "k>a", "+a9=1,", "+a9=1;", "+a9=256", "+a09=1", "+a9=1,a*1"}) {
            due("define " + text, define(vault, text), BAD_TEXT);
        }
        due("a pad of 80 with its last one at fault", define(vault, "-a,".repeat(26) + "-k"), BAD_TEXT);
        due("no version", vault.state(8), 0);
    }

    @Sentence("2 define: TOO_MANY if there are 6 versions")
    static void defineTooMany() {
        SettingsVault vault = vault("+a9=1", "a<8", "a<7", "a<6", "a<5");
        due("behind 5", define(vault, "a<4"), 5);
        due("behind 6", define(vault, "a<3"), TOO_MANY);
        due("and again", vault.define(), TOO_MANY);
    }

    @Sentence("2 define: NOT_POSSIBLE if a step cannot be done (a name is or is not there,"
        + " or a default is greater than the greatest value)")
    static void defineNotPossible() {
        dueImpossible("+a9=1", "+a9=1", "+b8=9", "-b", "b>c", "a>a", "b*2", "b/2", "b<2");
        dueImpossible("+a9=1", "b>a,a<7", "a<7,b>a", "a*2,+c19=20");
        SettingsVault vault = vault("+a9=1");
        due("the last of 20 steps cannot", define(vault, "a<9,".repeat(19) + "b<12"), NOT_POSSIBLE);
        due("the last of 20 steps can", define(vault, "a<9,".repeat(19) + "a<12"), 1);
    }

    @Sentence("2 define: [it names no error for the power, nor for no active page]")
    static void defineNeedsNoPower() {
        SettingsVault vault = vault("+a9=1");
        powerOff(vault);
        due("off, without an active page", define(vault, "a*2"), 1);
        vault.start();
        vault.factory(1);
        powerOff(vault);
        due("off", define(vault, "a*2"), 2);
        due("its greatest value", vault.layout(2, 0, 0), 36);
    }

    @Sentence("Conventions for 2 define: the first one that applies is returned")
    static void defineOrder() {
        SettingsVault vault = vault("+a9=1", "a<8", "a<7", "a<6", "a<5", "a<4");
        due("bad text ahead of too many", define(vault, "a"), BAD_TEXT);
        due("too many ahead of not possible", define(vault, "-b"), TOO_MANY);
        due("bad text ahead of both", define(vault, "-b,"), BAD_TEXT);
        due("bad text ahead of not possible", define(vault("+a9=1"), "-b,"), BAD_TEXT);
    }

    @Sentence("Conventions for 2 define: A call that returns an error changes nothing.")
    static void defineErrorsChangeNothing() {
        String[] texts = {"+b5=5,a<3,-c", "-a,+a3=3,a>a", "+b5=5,"};
        for (String text : texts) {
            SettingsVault vault = ready("+a9=1");
            pad(vault, text);
            int[] before = look(vault);
            due("define " + text, vault.define(), text.endsWith(",") ? BAD_TEXT : NOT_POSSIBLE);
            dueUnchanged(vault, before);
            due("the pad stays", vault.wipe(), text.length());
            due("define anew", define(vault, "a*2"), 1);
            dueSetting(vault, 1, 0, 18, 2, 0);
            due("nothing of the text", vault.layout(1, 1, 0), NO_SUCH);
        }
        SettingsVault full = vault("+a9=1", "a<8", "a<7", "a<6", "a<5", "a<4");
        pad(full, "a<3");
        int[] before = look(full);
        due("too many", full.define(), TOO_MANY);
        dueUnchanged(full, before);
        due("the last one stays", full.layout(5, 0, 0), 4);
    }

    // ---- promise 3: layout

    @Sentence("3 layout: 0 its greatest value, 1 its default, 2 the name that it had in the version before")
    static void layoutWhats() {
        SettingsVault vault = vault("+a200=20,+j9=0", "a>b");
        dueSetting(vault, 1, 1, 200, 20, 0);
        dueSetting(vault, 1, 9, 9, 0, 9);
    }

    @Sentence("3 layout: (NONE if it was added since, or in the version 0)")
    static void layoutNoNameBefore() {
        SettingsVault vault = vault("+a9=1,+b9=1,b>c", "-a,+a9=1,a>d,+b9=1", "d>a");
        due("added in 0", vault.layout(0, 0, 2), NONE);
        due("added and renamed in 0", vault.layout(0, 2, 2), NONE);
        due("dropped, added and renamed", vault.layout(1, 3, 2), NONE);
        due("added under a name of version -1", vault.layout(1, 1, 2), NONE);
        due("not added since", vault.layout(1, 2, 2), 2);
        due("added in the version before", vault.layout(2, 0, 2), 3);
        due("added in the version before, with its name", vault.layout(2, 1, 2), 1);
    }

    @Sentence("3 layout: NO_SUCH if there is no such version")
    static void layoutNoVersion() {
        SettingsVault vault = vault("+a9=1", "a<8");
        due("the last", vault.layout(1, 0, 0), 8);
        for (int version : new int[] {Integer.MIN_VALUE, NONE, -1, 2, 5, 6, Integer.MAX_VALUE}) {
            due("version " + version, vault.layout(version, 0, 0), NO_SUCH);
        }
        due("no version at all", new SettingsVault().layout(0, 0, 0), NO_SUCH);
    }

    @Sentence("3 layout: or no such setting in it")
    static void layoutNoSetting() {
        SettingsVault vault = vault("+a9=1,+j9=1", "a>b");
        due("a in 0", vault.layout(0, 0, 0), 9);
        due("b in 1", vault.layout(1, 1, 0), 9);
        due("a in 1", vault.layout(1, 0, 0), NO_SUCH);
        due("b in 0", vault.layout(0, 1, 0), NO_SUCH);
        for (int name : new int[] {Integer.MIN_VALUE, NONE, -1, 8, 10, Integer.MAX_VALUE}) {
            due("name " + name, vault.layout(0, name, 0), NO_SUCH);
        }
    }

    @Sentence("3 layout: BAD_VALUE if what is out of range")
    static void layoutBadWhat() {
        SettingsVault vault = vault("+a9=1");
        for (int what : new int[] {Integer.MIN_VALUE, NONE, -1, 3, Integer.MAX_VALUE}) {
            due("what " + what, vault.layout(0, 0, what), BAD_VALUE);
        }
        dueSetting(vault, 0, 0, 9, 1, NONE);
    }

    @Sentence("Conventions for 3 layout: the first one that applies is returned")
    static void layoutOrder() {
        SettingsVault vault = vault("+a9=1");
        due("no version ahead of a bad what", vault.layout(1, 0, 3), NO_SUCH);
        due("no setting ahead of a bad what", vault.layout(0, 1, -1), NO_SUCH);
    }

    @Sentence("Conventions for 3 layout: A call that returns an error changes nothing.")
    static void layoutErrorsChangeNothing() {
        SettingsVault vault = ready("+a9=1", "a<5");
        int[] before = look(vault);
        due("no version", vault.layout(2, 0, 0), NO_SUCH);
        due("no setting", vault.layout(0, 1, 0), NO_SUCH);
        due("a bad what", vault.layout(0, 0, 3), BAD_VALUE);
        dueUnchanged(vault, before);
    }
}
