/** What every test needs: due answers, a count of wrong ones, and vaults that are ready for use. */
final class Check {
    private static int wrong = 0;

    private Check() {
    }

    static void due(String what, long got, long want) {
        if (got != want) {
            wrong++;
            System.out.println(what + ": answered " + got + ", due is " + want);
        }
    }

    /** The last line of each test: ends the program, with 1 if an answer was wrong. */
    static void end() {
        System.exit(wrong == 0 ? 0 : 1);
    }

    /** Up to 8 characters as the number that put wants. */
    static long code(String text) {
        long code = 0;
        for (int i = 0; i < text.length(); i++) {
            code = code << 8 | text.charAt(i);
        }
        return code;
    }

    static void pad(SettingsVault vault, String text) {
        vault.wipe();
        for (int i = 0; i < text.length(); i += 8) {
            int end = Math.min(i + 8, text.length());
            due("put " + text + " up to " + end, vault.put(code(text.substring(i, end))), end);
        }
    }

    static int define(SettingsVault vault, String text) {
        pad(vault, text);
        return vault.define();
    }

    static int fault(String text) {
        SettingsVault vault = new SettingsVault();
        pad(vault, text);
        return vault.fault();
    }

    /** A vault with these versions. */
    static SettingsVault vault(String... versions) {
        SettingsVault vault = new SettingsVault();
        for (int i = 0; i < versions.length; i++) {
            due("define " + versions[i], define(vault, versions[i]), i);
        }
        return vault;
    }

    /** A vault with these versions, in the factory's state of version 0. */
    static SettingsVault ready(String... versions) {
        SettingsVault vault = vault(versions);
        due("factory(0)", vault.factory(0), 3);
        return vault;
    }

    static int headCheck(int version, int sequence) {
        return (3 * (200 + version) + 5 * sequence + 1) % 251;
    }

    static int recordCheck(int name, int value, int version) {
        return (7 * (1 + name) + 11 * value + 13 * version + 5) % 251;
    }

    static void spoilThree(SettingsVault vault, int page, int index, int one, int two, int three) {
        vault.spoil(page, index, one);
        vault.spoil(page, index + 1, two);
        vault.spoil(page, index + 2, three);
    }

    static void spoilHead(SettingsVault vault, int page, int version, int sequence) {
        spoilThree(vault, page, 0, 200 + version, sequence, headCheck(version, sequence));
    }

    static void spoilRecord(SettingsVault vault, int page, int index, int name, int value, int version) {
        spoilThree(vault, page, index, 1 + name, value, recordCheck(name, value, version));
    }

    static void dueCells(String what, SettingsVault vault, int page, int index, int... want) {
        for (int i = 0; i < want.length; i++) {
            due(what + ", cell " + (index + i) + " of page " + page, vault.cell(page, index + i), want[i]);
        }
    }
}
