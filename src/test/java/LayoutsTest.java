/** Promises 2 and 3, and how versions are made by steps. */
public final class LayoutsTest extends Check {
    public static void main(String[] args) {
        promise02();
        promise02errors();
        promise02order();
        promise03();
        promise03names();
        steps();
        end();
    }

    private static void promise02() {
        SettingsVault vault = new SettingsVault();
        for (int version = 0; version < 6; version++) {
            due("versions ahead", vault.state(8), version);
            due("define", define(vault, version == 0 ? "+a9=1" : "a<8"), version);
            due("pad is empty", vault.state(12), 0);
            due("versions behind", vault.state(8), version + 1);
        }
        pad(vault, "a<7");
        due("a seventh", vault.define(), TOO_MANY);
        due("its pad stays", vault.state(12), 3);
        due("still 6", vault.state(8), 6);
        due("no version 6", vault.layout(6, 0, 0), NO_SUCH);
        // The most steps that a pad holds.
        StringBuilder text = new StringBuilder("+a7=7");
        for (int i = 0; i < 18; i++) {
            text.append(",a*9");
        }
        text.append(",-a");
        due("length", text.length(), 80);
        due("80 characters", define(new SettingsVault(), text.toString()), 0);
        // The defining needs no power.
        vault = ready("+a9=1");
        vault.fail(0);
        vault.set(0, 2);
        due("define without power", define(vault, "-a"), 1);
        due("all settings dropped", vault.layout(1, 0, 0), NO_SUCH);
    }

    private static void promise02errors() {
        SettingsVault vault = vault("+a9=1,+b255=255");
        String[] impossible = {"+a1=1", "-c", "c>d", "a>b", "a>a", "c*2", "c/2", "c<2", "+c1=2", "+c0=1",
            "a>c,a*2", "-a,a<1", "-a,-a", "+c1=1,+c1=1", "a>c,b>c", "a*2,-a,+a3=4", "c>a"};
        for (String text : impossible) {
            due("define " + text, define(vault, text), NOT_POSSIBLE);
            due("its pad stays", vault.wipe(), text.length());
            due("no version more", vault.state(8), 1);
        }
        dueSetting(vault, 0, 0, 9, 1, NONE);
        due("define nothing", vault.define(), BAD_TEXT);
        due("define a", define(vault, "a"), BAD_TEXT);
        due("its pad stays", vault.state(12), 1);
        // What failed leaves nothing behind for the next version.
        due("define anew", define(vault, "-a,+a3=3,a>e"), 1);
        dueSetting(vault, 1, 4, 3, 3, NONE);
        dueSetting(vault, 1, 1, 255, 255, 1);
        due("no a", vault.layout(1, 0, 0), NO_SUCH);
    }

    private static void promise02order() {
        SettingsVault vault = vault("+a9=1", "a<8", "a<7", "a<6", "a<5", "a<4");
        due("bad text ahead of too many", define(vault, "-"), BAD_TEXT);
        due("too many ahead of impossible", define(vault, "-b"), TOO_MANY);
        vault = new SettingsVault();
        due("bad text ahead of impossible", define(vault, "-b,"), BAD_TEXT);
    }

    private static void promise03() {
        SettingsVault vault = vault("+a200=20,+j0=0", "a>b");
        dueSetting(vault, 0, 0, 200, 20, NONE);
        dueSetting(vault, 0, 9, 0, 0, NONE);
        dueSetting(vault, 1, 1, 200, 20, 0);
        dueSetting(vault, 1, 9, 0, 0, 9);
        for (int version : new int[] {Integer.MIN_VALUE, -1, 2, 6, Integer.MAX_VALUE}) {
            due("version " + version, vault.layout(version, 0, 0), NO_SUCH);
        }
        for (int name : new int[] {Integer.MIN_VALUE, -1, 1, 10, Integer.MAX_VALUE}) {
            due("name " + name, vault.layout(0, name, 0), NO_SUCH);
        }
        for (int what : new int[] {Integer.MIN_VALUE, -1, 3, Integer.MAX_VALUE}) {
            due("what " + what, vault.layout(0, 0, what), BAD_VALUE);
        }
        due("no version ahead of bad what", vault.layout(2, 0, 3), NO_SUCH);
        due("no name ahead of bad what", vault.layout(0, 1, 3), NO_SUCH);
    }

    private static void promise03names() {
        SettingsVault vault = vault("+a9=1,+b8=2,a>e", "e>a,b>c,c>d", "a>e,d>a,e>d", "-a,+a5=5", "a>b", "b*2");
        dueSetting(vault, 0, 4, 9, 1, NONE);
        dueSetting(vault, 1, 0, 9, 1, 4);
        dueSetting(vault, 1, 3, 8, 2, 1);
        dueSetting(vault, 2, 0, 8, 2, 3);
        dueSetting(vault, 2, 3, 9, 1, 0);
        dueSetting(vault, 3, 0, 5, 5, NONE);
        dueSetting(vault, 4, 1, 5, 5, 0);
        dueSetting(vault, 5, 1, 10, 10, 1);
        dueSetting(vault, 5, 3, 9, 1, 3);
    }

    private static void steps() {
        SettingsVault vault = vault("+a100=50,+b31=31,+c7=5,+d200=100,+e200=10,+f255=0", "a*3,b*8,c/2,d<60,e<100,f<255");
        dueSetting(vault, 1, 0, 255, 150, 0);
        dueSetting(vault, 1, 1, 248, 248, 1);
        dueSetting(vault, 1, 2, 3, 2, 2);
        dueSetting(vault, 1, 3, 60, 60, 3);
        dueSetting(vault, 1, 4, 100, 10, 4);
        dueSetting(vault, 1, 5, 255, 0, 5);
        due("define", define(vault, "b*2,c/9,d<0,a/9,a*9,e<255"), 2);
        dueSetting(vault, 2, 0, 252, 144, 0);
        dueSetting(vault, 2, 1, 255, 255, 1);
        dueSetting(vault, 2, 2, 0, 0, 2);
        dueSetting(vault, 2, 3, 0, 0, 3);
        dueSetting(vault, 2, 4, 100, 10, 4);
    }
}
