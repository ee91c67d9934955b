/** The sentences of 'Texts' and of the promises 18 to 20 that name a boundary case. */
public final class TextEdgesTest extends Check {
    private static final String EIGHTY = "a<1,".repeat(19) + "a<12";

    public static void main(String[] args) {
        sentences(TextEdgesTest.class);
    }

    private static void dueGood(String... texts) {
        for (String text : texts) {
            due("fault of " + text, fault(text), NONE);
        }
    }

    /** The first text in each row has a fault at its last character. */
    private static void dueFaultAtTheEnd(String... texts) {
        for (String text : texts) {
            due("fault of " + text, fault(text), text.length() - 1);
            due("fault of " + text + " with more behind it", fault(text + ",k"), text.length() - 1);
        }
    }

    // ---- Texts

    @Sentence("Texts: The pad is a text of at most 80 characters")
    static void atMost80() {
        SettingsVault vault = new SettingsVault();
        pad(vault, EIGHTY);
        due("80", vault.state(12), 80);
        due("read to its end", vault.fault(), NONE);
        due("one more", vault.put(code(",")), TOO_MANY);
        due("fault at the last", fault("a<1,".repeat(19) + "a<1a"), 79);
        due("too early behind the last", fault("a<1,".repeat(20)), 80);
        due("27 steps", fault("-a,".repeat(26) + "-a"), NONE);
        due("27 steps, fault at the last", fault("-a,".repeat(26) + "-k"), 79);
        due("79", fault("a<1,".repeat(19) + "a<1"), NONE);
    }

    @Sentence("Texts: steps = step { \",\" step }")
    static void stepsWithCommas() {
        dueGood("-a", "-a,-b", "-a,+b1=1,a>b,a*2,a/2,a<1,-c");
        dueFaultAtTheEnd("=", ">", "<", "*", "/", "-a,>", "-a,*", "-a,/", "-a,<", "-a,=");
        dueFaultAtTheEnd(",", "-a,,", "-a-", "-aa", "a<1;", "a<1+", "a>bb", "a*2a", "+a1=1a", "a<1.", "-a,-b-");
    }

    @Sentence("Texts: step = \"+\" name number \"=\" number")
    static void stepOfAdding() {
        dueGood("+a0=0", "+j255=255", "+a9=10", "+c100=99");
        dueFaultAtTheEnd("+1", "++", "+,", "+aa", "+a=", "+a,", "+a1,", "+a1>", "+a1==", "+a1=a", "+a1=,", "+a1=1=");
    }

    @Sentence("Texts: | \"-\" name |")
    static void stepOfDropping() {
        dueGood("-a", "-j");
        dueFaultAtTheEnd("--", "-1", "-,", "-+", "-a1", "-a=");
    }

    @Sentence("Texts: | name \">\" name |")
    static void stepOfRenaming() {
        dueGood("a>j", "j>a", "a>a");
        dueFaultAtTheEnd("a>>", "a>1", "a>,", "a>-", "a>b>", "a=", "ab", "a,", "a1", "a+", "a-");
    }

    @Sentence("Texts: name ( \"*\" | \"/\" ) digit")
    static void stepOfFactor() {
        dueGood("a*2", "a/2", "j*9", "j/9", "a*5", "a/5");
        dueFaultAtTheEnd("a*a", "a**", "a*,", "a//", "a/a", "a*/", "a*-", "a:", "a%");
    }

    @Sentence("Texts: name \"<\" number")
    static void stepOfLimiting() {
        dueGood("a<0", "j<255", "a<9");
        dueFaultAtTheEnd("a<<", "a<a", "a<,", "a<-", "a<1<", "a<1=");
    }

    @Sentence("Texts: multiplying or dividing by a digit from 2 to 9")
    static void digitsFrom2To9() {
        dueGood("a*2", "a*9", "a/2", "a/9");
        dueFaultAtTheEnd("a*0", "a*1", "a/0", "a/1", "a*:", "a//", "a*22", "a/99", "a*20");
    }

    @Sentence("Texts: Names are letters from a to j")
    static void namesFromAToJ() {
        dueGood("+a1=1", "+j1=1", "-a", "-j", "a>j", "j>a", "a*2", "j*2", "a<1", "j<1");
        for (char name : new char[] {'`', 'k', 'z', 'A', 'J', '0'}) {
            dueFaultAtTheEnd("" + name, "+" + name, "-" + name, "a>" + name, "-a," + name);
        }
    }

    @Sentence("Texts: numbers are from 0 to 255")
    static void numbersTo255() {
        for (int number = 0; number <= 255; number++) {
            due("fault of " + number, fault("+a" + number + "=" + (255 - number) + ",a<" + number), NONE);
        }
        for (int number : new int[] {256, 259, 260, 299, 300, 999}) {
            dueFaultAtTheEnd("a<" + number, "+a" + number, "+a1=" + number);
        }
        dueFaultAtTheEnd("a<1000", "a<2550", "a</", "a<0/", "a<1/", "a<12/", "a<:", "a<0:", "a<1:", "a<12:",
            "+a/", "+a1/", "+a:", "+a1:", "+a1=/", "+a1=1/", "+a1=:", "+a1=1:");
    }

    @Sentence("Texts: without leading zeros")
    static void noLeadingZeros() {
        dueGood("+a0=0", "a<0", "a<10", "a<100", "a<200", "a<205");
        dueFaultAtTheEnd("+a00", "+a01", "+a1=00", "+a1=05", "a<00", "a<01", "a<09");
    }

    @Sentence("Texts: The fault is the index of the first character that cannot stand at its place"
        + " when the text is read from left to right")
    static void firstCharacterAtFault() {
        due("the very first", fault("!a"), 0);
        due("the first of two", fault("-k,-k"), 1);
        due("the second step", fault("-a,-k,-k"), 4);
        due("the first of many", fault("a<1,a<1a,,,,"), 7);
        due("at once behind a good text", fault("a<1,a<1~"), 7);
        due("ahead of a text that ends too early", fault("a<1,!"), 4);
    }

    @Sentence("Texts: (also of a digit by which a number would be too great")
    static void digitByWhichANumberIsTooGreat() {
        due("256", fault("a<256"), 4);
        due("255 and one more", fault("a<2550"), 5);
        due("260", fault("a<260"), 4);
        due("999", fault("a<999"), 4);
        due("1000", fault("a<1000"), 5);
        due("256 as a greatest value", fault("+a256=1"), 4);
        due("256 as a default", fault("+a1=256"), 6);
        due("99999", fault("+a1=99999"), 6);
    }

    @Sentence("Texts: whether names are there does not matter, nor whether a default is too great)")
    static void namesAndDefaultsDoNotMatter() {
        dueGood("-a", "a>b", "a>a", "a*2", "a/2", "a<0", "-a,-a", "+a1=1,+a1=1", "+a0=1", "+a254=255", "+a0=255");
        SettingsVault vault = vault("+a9=1");
        pad(vault, "+a9=1,-b,+c1=2");
        due("fault", vault.fault(), NONE);
        due("define", vault.define(), NOT_POSSIBLE);
    }

    @Sentence("Texts: if there is none and the text ends too early (also if it is empty), it is the length of the text")
    static void endsTooEarly() {
        due("empty", fault(""), 0);
        due("empty, new", new SettingsVault().fault(), 0);
        String[] steps = {"+a255=255", "+a0=0", "-a", "a>b", "a*2", "a/9", "a<255"};
        int[] whole = {7, 5, 2, 3, 3, 3, 3};
        for (int i = 0; i < steps.length; i++) {
            for (int length = 0; length <= steps[i].length(); length++) {
                String text = steps[i].substring(0, length);
                due("fault of " + text, fault(text), length < whole[i] ? length : NONE);
                due("fault behind a step of " + text, fault("-j," + text), length < whole[i] ? 3 + length : NONE);
            }
        }
    }

    // ---- promise 18: put

    @Sentence("18 put: its lowest 8 bits are the last character, the next 8 bits the one before, and so on")
    static void putInOrder() {
        SettingsVault vault = new SettingsVault();
        due("+a255=9,", vault.put(0x2b613235353d392cL), 8);
        due("a>b", vault.put(0x613e62L), 11);
        due("define", vault.define(), 0);
        dueSetting(vault, 0, 1, 255, 9, NONE);
        vault.put(0x2dL);
        vault.put(0x62L);
        due("one by one", vault.define(), 1);
        due("b is dropped", vault.layout(1, 1, 0), NO_SUCH);
    }

    @Sentence("18 put: 1 to 8 characters")
    static void putOneToEight() {
        SettingsVault vault = new SettingsVault();
        String text = "+a255=25";
        for (int many = 1; many <= 8; many++) {
            vault.wipe();
            due("put " + many, vault.put(code(text.substring(0, many))), many);
            due("fault of " + many, vault.fault(), many < 7 ? many : NONE);
        }
        due("none", vault.put(0), BAD_VALUE);
    }

    @Sentence("18 put: Returns the length of the pad then")
    static void putReturns() {
        SettingsVault vault = new SettingsVault();
        int length = 0;
        for (int many : new int[] {1, 8, 2, 7, 3, 6, 4, 5, 8, 8, 8, 8, 8, 4}) {
            length += many;
            due("length", vault.put(code("a".repeat(many))), length);
        }
        due("80", vault.state(12), 80);
    }

    @Sentence("18 put: BAD_VALUE if there is no character")
    static void putNothing() {
        SettingsVault vault = new SettingsVault();
        due("0", vault.put(0), BAD_VALUE);
        due("1 character", vault.put(97), 1);
        due("0 then", vault.put(0), BAD_VALUE);
    }

    @Sentence("18 put: a code is not 33 to 126")
    static void putBadCodes() {
        long eight = 0x6161616161616161L;
        for (int place = 0; place < 8; place++) {
            for (int bad : new int[] {1, 31, 32, 127, 128, 161, 255}) {
                long characters = eight & ~(255L << 8 * place) | (long) bad << 8 * place;
                due("code " + bad + " at " + place, new SettingsVault().put(characters), BAD_VALUE);
                long shorter = place == 7 ? characters : characters & (1L << 8 * place + 8) - 1;
                due("code " + bad + " as the first of " + (place + 1), new SettingsVault().put(shorter), BAD_VALUE);
            }
            for (int good : new int[] {33, 126}) {
                long characters = eight & ~(255L << 8 * place) | (long) good << 8 * place;
                due("code " + good + " at " + place, new SettingsVault().put(characters), 8);
            }
        }
        due("33", new SettingsVault().put(33), 1);
        due("126", new SettingsVault().put(126), 1);
        due("-1", new SettingsVault().put(-1), BAD_VALUE);
    }

    @Sentence("18 put: or a bit above 8 bits that are 0 is not 0")
    static void putBitsAboveZeros() {
        for (int zero = 0; zero < 7; zero++) {
            long below = 0x6161616161616161L & (1L << 8 * zero) - 1;
            for (int bit = 8 * zero + 8; bit < 64; bit++) {
                due("bit " + bit + " above zeros at " + zero, new SettingsVault().put(below | 1L << bit), BAD_VALUE);
            }
            due("a character above zeros at " + zero, new SettingsVault().put(below | 97L << 8 * zero + 8), BAD_VALUE);
            due("none above " + zero, new SettingsVault().put(below), zero == 0 ? BAD_VALUE : zero);
        }
    }

    @Sentence("18 put: TOO_MANY if the pad would be longer than 80")
    static void putTooMany() {
        for (int length = 72; length <= 80; length++) {
            for (int many = 1; many <= 8; many++) {
                SettingsVault vault = new SettingsVault();
                pad(vault, EIGHTY.substring(0, length));
                due(length + " and " + many, vault.put(code("a".repeat(many))),
                    length + many > 80 ? TOO_MANY : length + many);
            }
        }
    }

    @Sentence("Conventions for 18 put: the first one that applies is returned")
    static void putOrder() {
        SettingsVault vault = new SettingsVault();
        pad(vault, EIGHTY);
        due("no character ahead of too many", vault.put(0), BAD_VALUE);
        due("a bad code ahead of too many", vault.put(32), BAD_VALUE);
        due("a bit above zeros ahead of too many", vault.put(0x610061), BAD_VALUE);
        due("too many", vault.put(97), TOO_MANY);
    }

    @Sentence("Conventions for 18 put: A call that returns an error changes nothing.")
    static void putErrorsChangeNothing() {
        SettingsVault vault = new SettingsVault();
        pad(vault, "+a9=1");
        long[] bad = {0, 32, 127, -1, 0x3900, 0x390039, 0x2039, 0x397f, 0x3939393939393920L, 0x2039393939393939L};
        for (long characters : bad) {
            due("put " + characters, vault.put(characters), BAD_VALUE);
            due("length", vault.state(12), 5);
        }
        due("fault", vault.fault(), NONE);
        due("define", vault.define(), 0);
        dueSetting(vault, 0, 0, 9, 1, NONE);
        pad(vault, EIGHTY.substring(0, 76) + "a<7");
        due("too many", vault.put(code("9,")), TOO_MANY);
        due("length", vault.state(12), 79);
        due("define", vault.define(), 1);
        dueSetting(vault, 1, 0, 1, 1, 0);
    }

    @Sentence("18 to 20: [they name no error for the power being off]")
    static void textsNeedNoPower() {
        SettingsVault vault = ready("+a9=1");
        powerOff(vault);
        due("put", vault.put(code("a<")), 2);
        due("fault", vault.fault(), 2);
        due("length", vault.state(12), 2);
        due("wipe", vault.wipe(), 2);
    }

    // ---- promise 19: wipe

    @Sentence("19 wipe: Empties the pad, and returns the length that it had.")
    static void wipes() {
        SettingsVault vault = new SettingsVault();
        due("an empty pad", vault.wipe(), 0);
        pad(vault, EIGHTY);
        due("80", vault.wipe(), 80);
        due("empty then", vault.state(12), 0);
        due("its fault", vault.fault(), 0);
        due("again", vault.wipe(), 0);
        vault.put(code("-"));
        due("1", vault.wipe(), 1);
        due("put anew", vault.put(code("+a9=1")), 5);
        due("define", vault.define(), 0);
        due("behind define", vault.wipe(), 0);
    }

    // ---- promise 20: fault

    @Sentence("20 fault: Returns the fault of the pad, NONE if there is none.")
    static void faults() {
        SettingsVault vault = new SettingsVault();
        due("empty", vault.fault(), 0);
        vault.put(code("-k"));
        due("at the second", vault.fault(), 1);
        due("the pad stays", vault.state(12), 2);
        vault.wipe();
        vault.put(code("+a9="));
        due("too early", vault.fault(), 4);
        vault.put(code("1"));
        due("none", vault.fault(), NONE);
        due("none again", vault.fault(), NONE);
        due("define", vault.define(), 0);
        due("empty then", vault.fault(), 0);
    }
}
