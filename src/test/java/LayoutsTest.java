/** Promises 2 and 3, and how versions are made by steps. */
public final class LayoutsTest {
    private static final int GREATEST = 0;
    private static final int DEFAULT = 1;
    private static final int BEFORE = 2;

    public static void main(String[] args) {
        promise02();
        promise02errors();
        promise02order();
        promise03();
        promise03names();
        steps();
        Check.end();
    }

    private static void dueSetting(SettingsVault vault, int version, int name, int greatest, int defaultValue, int before) {
        String what = "version " + version + " setting " + name + " ";
        Check.due(what + "greatest", vault.layout(version, name, GREATEST), greatest);
        Check.due(what + "default", vault.layout(version, name, DEFAULT), defaultValue);
        Check.due(what + "before", vault.layout(version, name, BEFORE), before);
    }

    private static void promise02() {
        SettingsVault vault = new SettingsVault();
        for (int version = 0; version < 6; version++) {
            Check.due("versions ahead", vault.state(8), version);
            Check.due("define", Check.define(vault, version == 0 ? "+a9=1" : "a<8"), version);
            Check.due("pad is empty", vault.state(12), 0);
            Check.due("versions behind", vault.state(8), version + 1);
        }
        Check.pad(vault, "a<7");
        Check.due("a seventh", vault.define(), SettingsVault.TOO_MANY);
        Check.due("its pad stays", vault.state(12), 3);
        Check.due("still 6", vault.state(8), 6);
        Check.due("no version 6", vault.layout(6, 0, 0), SettingsVault.NO_SUCH);
        // The most steps that a pad holds.
        StringBuilder text = new StringBuilder("+a7=7");
        for (int i = 0; i < 18; i++) {
            text.append(",a*9");
        }
        text.append(",-a");
        Check.due("length", text.length(), 80);
        Check.due("80 characters", Check.define(new SettingsVault(), text.toString()), 0);
        // The defining needs no power.
        vault = Check.ready("+a9=1");
        vault.fail(0);
        vault.set(0, 2);
        Check.due("define without power", Check.define(vault, "-a"), 1);
        Check.due("all settings dropped", vault.layout(1, 0, 0), SettingsVault.NO_SUCH);
    }

    private static void promise02errors() {
        SettingsVault vault = Check.vault("+a9=1,+b255=255");
        String[] impossible = {"+a1=1", "-c", "c>d", "a>b", "a>a", "c*2", "c/2", "c<2", "+c1=2", "+c0=1",
            "a>c,a*2", "-a,a<1", "-a,-a", "+c1=1,+c1=1", "a>c,b>c", "a*2,-a,+a3=4", "c>a"};
        for (String text : impossible) {
            Check.due("define " + text, Check.define(vault, text), SettingsVault.NOT_POSSIBLE);
            Check.due("its pad stays", vault.wipe(), text.length());
            Check.due("no version more", vault.state(8), 1);
        }
        dueSetting(vault, 0, 0, 9, 1, SettingsVault.NONE);
        Check.due("define nothing", vault.define(), SettingsVault.BAD_TEXT);
        Check.due("define a", Check.define(vault, "a"), SettingsVault.BAD_TEXT);
        Check.due("its pad stays", vault.state(12), 1);
        // What failed leaves nothing behind for the next version.
        Check.due("define anew", Check.define(vault, "-a,+a3=3,a>e"), 1);
        dueSetting(vault, 1, 4, 3, 3, SettingsVault.NONE);
        dueSetting(vault, 1, 1, 255, 255, 1);
        Check.due("no a", vault.layout(1, 0, 0), SettingsVault.NO_SUCH);
    }

    private static void promise02order() {
        SettingsVault vault = Check.vault("+a9=1", "a<8", "a<7", "a<6", "a<5", "a<4");
        Check.due("bad text ahead of too many", Check.define(vault, "-"), SettingsVault.BAD_TEXT);
        Check.due("too many ahead of impossible", Check.define(vault, "-b"), SettingsVault.TOO_MANY);
        vault = new SettingsVault();
        Check.due("bad text ahead of impossible", Check.define(vault, "-b,"), SettingsVault.BAD_TEXT);
    }

    private static void promise03() {
        SettingsVault vault = Check.vault("+a200=20,+j0=0", "a>b");
        dueSetting(vault, 0, 0, 200, 20, SettingsVault.NONE);
        dueSetting(vault, 0, 9, 0, 0, SettingsVault.NONE);
        dueSetting(vault, 1, 1, 200, 20, 0);
        dueSetting(vault, 1, 9, 0, 0, 9);
        for (int version : new int[] {Integer.MIN_VALUE, -1, 2, 6, Integer.MAX_VALUE}) {
            Check.due("version " + version, vault.layout(version, 0, 0), SettingsVault.NO_SUCH);
        }
        for (int name : new int[] {Integer.MIN_VALUE, -1, 1, 10, Integer.MAX_VALUE}) {
            Check.due("name " + name, vault.layout(0, name, 0), SettingsVault.NO_SUCH);
        }
        for (int what : new int[] {Integer.MIN_VALUE, -1, 3, Integer.MAX_VALUE}) {
            Check.due("what " + what, vault.layout(0, 0, what), SettingsVault.BAD_VALUE);
        }
        Check.due("no version ahead of bad what", vault.layout(2, 0, 3), SettingsVault.NO_SUCH);
        Check.due("no name ahead of bad what", vault.layout(0, 1, 3), SettingsVault.NO_SUCH);
    }

    private static void promise03names() {
        SettingsVault vault = Check.vault("+a9=1,+b8=2,a>e", "e>a,b>c,c>d", "a>e,d>a,e>d", "-a,+a5=5", "a>b", "b*2");
        dueSetting(vault, 0, 4, 9, 1, SettingsVault.NONE);
        dueSetting(vault, 1, 0, 9, 1, 4);
        dueSetting(vault, 1, 3, 8, 2, 1);
        dueSetting(vault, 2, 0, 8, 2, 3);
        dueSetting(vault, 2, 3, 9, 1, 0);
        dueSetting(vault, 3, 0, 5, 5, SettingsVault.NONE);
        dueSetting(vault, 4, 1, 5, 5, 0);
        dueSetting(vault, 5, 1, 10, 10, 1);
        dueSetting(vault, 5, 3, 9, 1, 3);
    }

    private static void steps() {
        SettingsVault vault = Check.vault("+a100=50,+b31=31,+c7=5,+d200=100,+e200=10,+f255=0", "a*3,b*8,c/2,d<60,e<100,f<255");
        dueSetting(vault, 1, 0, 255, 150, 0);
        dueSetting(vault, 1, 1, 248, 248, 1);
        dueSetting(vault, 1, 2, 3, 2, 2);
        dueSetting(vault, 1, 3, 60, 60, 3);
        dueSetting(vault, 1, 4, 100, 10, 4);
        dueSetting(vault, 1, 5, 255, 0, 5);
        Check.due("define", Check.define(vault, "b*2,c/9,d<0,a/9,a*9,e<255"), 2);
        dueSetting(vault, 2, 0, 252, 144, 0);
        dueSetting(vault, 2, 1, 255, 255, 1);
        dueSetting(vault, 2, 2, 0, 0, 2);
        dueSetting(vault, 2, 3, 0, 0, 3);
        dueSetting(vault, 2, 4, 100, 10, 4);
    }
}
