/** Promises 18 to 20: the pad and its faults. */
public final class TextsTest extends Check {
    public static void main(String[] args) {
        promise18();
        promise18errors();
        promise18full();
        promise19();
        promise20good();
        promise20faults();
        promise20early();
        end();
    }

    private static void promise18() {
        SettingsVault vault = new SettingsVault();
        due("one", vault.put(code("+")), 1);
        due("four", vault.put(code("a9=1")), 5);
        due("eight", vault.put(code(",+b7=5,a")), 13);
        due("two", vault.put(code("*2")), 15);
        due("define", vault.define(), 0);
        due("a", vault.layout(0, 0, 0), 18);
        due("b", vault.layout(0, 1, 1), 5);
        due("33", vault.put(33), 1);
        due("126", vault.put(126), 2);
        due("126 eight times", vault.put(0x7e7e7e7e7e7e7e7eL), 10);
        due("33 eight times", vault.put(0x2121212121212121L), 18);
    }

    private static void promise18errors() {
        SettingsVault vault = new SettingsVault();
        long[] bad = {0, 32, 127, 1, 255, -1, -2, Long.MIN_VALUE, Long.MAX_VALUE, 0x6100, 0x610061, 0x2061, 0x6120,
            0x7f61, 0x617f, 0x6100000000000000L, 0x6100000000000061L, 0x8061616161616161L, 0x0100000000000061L,
            0xe161616161616161L, 0x6161616120616161L, 0x80000061L};
        for (long characters : bad) {
            due("put " + characters, vault.put(characters), BAD_VALUE);
        }
        due("nothing was put", vault.state(12), 0);
    }

    private static void promise18full() {
        SettingsVault vault = new SettingsVault();
        for (int i = 1; i <= 9; i++) {
            due("put", vault.put(code("a<1,a<1,")), 8 * i);
        }
        due("put 1", vault.put(97), 73);
        due("put 8", vault.put(code("<1,a<1,a")), TOO_MANY);
        due("a bad one", vault.put(0x6100), BAD_VALUE);
        due("put 7", vault.put(code("<1,a<11")), 80);
        due("one more", vault.put(97), TOO_MANY);
        due("a bad one then", vault.put(0), BAD_VALUE);
        due("length", vault.state(12), 80);
        due("no fault", vault.fault(), NONE);
    }

    private static void promise19() {
        SettingsVault vault = new SettingsVault();
        due("wipe nothing", vault.wipe(), 0);
        pad(vault, "+a9=1,+b9=1");
        due("wipe", vault.wipe(), 11);
        due("wipe again", vault.wipe(), 0);
        due("fault", vault.fault(), 0);
        pad(vault, "+c9=1");
        due("define", vault.define(), 0);
        due("nothing of before", vault.layout(0, 0, 0), NO_SUCH);
        due("c", vault.layout(0, 2, 0), 9);
    }

    private static void promise20good() {
        String[] good = {"+a0=0", "+j255=255", "+a9=10", "+a10=9", "+a1=255", "-a", "-j", "a>j", "j>a", "a>a", "a*2",
            "a*9", "a/2", "a/9", "a<0", "a<255", "a<249", "a<199", "a<25", "-a,-a,-a", "+a1=1,b>c,-d,e*2,f/3,g<4",
            "-a,-a,-a,-a,-a,-a,-a,-a,-a,-a,-a,-a,-a,-a,-a,-a,-a,-a,-a,-a,-a,-a,-a,-a,-a,-a,-a"};
        for (String text : good) {
            due("fault of " + text, fault(text), NONE);
        }
    }

    private static void promise20faults() {
        String[] texts = {",", "k>a", "`>a", "A>a", "=", "1", "+k1=1", "+1", "+,", "+ab", "+a=1", "+a256=1", "+a300=1",
            "+a1000=1", "+a01=1", "+a00=1", "+a1,", "+a1=,", "+a1=256", "+a1=00", "+a1=01", "+a1=1=1", "+a1=1a",
            "+a1==", "-k", "--a", "-aa", "-a-", "-a,,", "ab", "aa>b", "a=1", "a+1", "a,b", "a>k", "a>>", "a>bb", "a>1",
            "a*1", "a*0", "a*a", "a*22", "a/1", "a/0", "a//", "a/33", "a<a", "a<256", "a<00", "a<2555", "a<-1",
            "a<1,k", "a<1,a*2,,", "a<260", "a<99999", "a<1!", "a<1:", "a</", "+a1:1", "+a1=255,+b1=256", "+a1=9~",
            "a*:", "a/:", "a*/", "a<:", "+a:", "+a/", "+a1=:", "+a1=/", "a*2:", "a<25:"};
        int[] faults = {0, 0, 0, 0, 0, 0, 1, 1, 1, 2, 2, 4, 4, 5, 3, 3, 3, 4, 6, 5, 5, 5, 5,
            4, 1, 1, 2, 2, 3, 1, 1, 1, 1, 1, 2, 2, 3, 2,
            2, 2, 2, 3, 2, 2, 2, 3, 2, 4, 3, 5, 2,
            4, 8, 4, 4, 3, 3, 2, 3, 14, 5,
            2, 2, 2, 2, 2, 2, 4, 4, 3, 4};
        due("rows", texts.length, faults.length);
        for (int i = 0; i < texts.length; i++) {
            due("fault of " + texts[i], fault(texts[i]), faults[i]);
        }
    }

    private static void promise20early() {
        String[] early = {"", "+", "+a", "+a1", "+a12", "+a255", "+a0", "+a1=", "-", "a", "a>", "a*", "a/", "a<", "-a,",
            "+a1=1,", "a<25,", "a*2,-", "a>b,c>"};
        for (String text : early) {
            due("fault of " + text, fault(text), text.length());
        }
        SettingsVault vault = new SettingsVault();
        pad(vault, "-a,b");
        due("fault", vault.fault(), 4);
        due("the pad stays", vault.state(12), 4);
        vault.put(code(">c"));
        due("no fault", vault.fault(), NONE);
    }
}
