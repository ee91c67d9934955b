import java.lang.reflect.InvocationTargetException;
import java.lang.reflect.Method;
import java.util.Arrays;
import java.util.Comparator;

/** What every test needs: due answers, a count of wrong ones, and vaults that are ready for use. */
abstract class Check {
    static final int NO_SUCH = SettingsVault.NO_SUCH;
    static final int BAD_VALUE = SettingsVault.BAD_VALUE;
    static final int BAD_TEXT = SettingsVault.BAD_TEXT;
    static final int TOO_MANY = SettingsVault.TOO_MANY;
    static final int NOT_POSSIBLE = SettingsVault.NOT_POSSIBLE;
    static final int NONE = SettingsVault.NONE;

    private static int wrong = 0;

    static void due(String what, long got, long want) {
        if (got != want) {
            wrong++;
            System.out.println(what + ": answered " + got + ", due is " + want);
        }
    }

    static void dueRow(String what, int[] got, int... want) {
        if (!Arrays.equals(got, want)) {
            wrong++;
            System.out.println(what + ": answered " + Arrays.toString(got) + ", due is " + Arrays.toString(want));
        }
    }

    /** The last line of each test: ends the program, with 1 if an answer was wrong. */
    static void end() {
        System.exit(wrong == 0 ? 0 : 1);
    }

    /** Runs each test of the class that is marked with a sentence, and ends the program. */
    static void sentences(Class<?> tests) {
        Method[] methods = tests.getDeclaredMethods();
        Arrays.sort(methods, Comparator.comparing(Method::getName));
        int count = 0;
        for (Method method : methods) {
            Sentence sentence = method.getAnnotation(Sentence.class);
            if (sentence != null) {
                count++;
                runSentence(method, sentence.value());
            }
        }
        due("there are sentences", count > 0 ? 1 : 0, 1);
        end();
    }

    private static void runSentence(Method method, String sentence) {
        int before = wrong;
        try {
            method.invoke(null);
        } catch (InvocationTargetException thrown) {
            wrong++;
            System.out.println("thrown: " + thrown.getCause());
        } catch (IllegalAccessException hidden) {
            wrong++;
            System.out.println("not to be called: " + hidden);
        }
        if (wrong > before) {
            System.out.println("BROKEN: " + method.getDeclaringClass().getName() + "." + method.getName()
                + ": " + sentence);
        }
    }

    // ---- texts

    /** Up to 8 characters as the number that put wants. */
    static long code(String text) {
        long code = 0;
        for (int i = 0; i < text.length(); i++) {
            code = code << 8 | text.charAt(i);
        }
        return code;
    }

    static void pad(SettingsVault vault, String text) {
        vault.wipe();
        for (int i = 0; i < text.length(); i += 8) {
            int end = Math.min(i + 8, text.length());
            due("put " + text + " up to " + end, vault.put(code(text.substring(i, end))), end);
        }
    }

    static int define(SettingsVault vault, String text) {
        pad(vault, text);
        return vault.define();
    }

    static int fault(String text) {
        SettingsVault vault = new SettingsVault();
        pad(vault, text);
        return vault.fault();
    }

    // ---- vaults

    /** A vault with these versions. */
    static SettingsVault vault(String... versions) {
        SettingsVault vault = new SettingsVault();
        for (int i = 0; i < versions.length; i++) {
            due("define " + versions[i], define(vault, versions[i]), i);
        }
        return vault;
    }

    /** A vault with these versions, in the factory's state of version 0. */
    static SettingsVault ready(String... versions) {
        SettingsVault vault = vault(versions);
        due("factory(0)", vault.factory(0), 3);
        return vault;
    }

    /** A vault whose active page 0 has a good head with this sequence, and no records. */
    static SettingsVault readyAt(int sequence, String... versions) {
        SettingsVault vault = vault(versions);
        spoilHead(vault, 0, 0, sequence);
        due("start", vault.start(), 0);
        return vault;
    }

    /** Sets a, which has another value and may be 115, until so many records more are written. */
    static void writeRecords(SettingsVault vault, int many) {
        for (int i = 1; i <= many; i++) {
            due("record " + i, vault.set(0, 100 + i), 3);
        }
    }

    /** Turns the power off by a compact, or without an active page by a factory, that fails ahead of its first write. */
    static void powerOff(SettingsVault vault) {
        vault.fail(0);
        due("nothing written", vault.state(1) == NONE ? vault.factory(0) : vault.compact(), 0);
        due("power off", vault.state(0), 0);
    }

    // ---- cells

    static int headCheck(int version, int sequence) {
        return (3 * (200 + version) + 5 * sequence + 1) % 251;
    }

    static int recordCheck(int name, int value, int version) {
        return (7 * (1 + name) + 11 * value + 13 * version + 5) % 251;
    }

    static void spoilThree(SettingsVault vault, int page, int index, int one, int two, int three) {
        vault.spoil(page, index, one);
        vault.spoil(page, index + 1, two);
        vault.spoil(page, index + 2, three);
    }

    static void spoilHead(SettingsVault vault, int page, int version, int sequence) {
        spoilThree(vault, page, 0, 200 + version, sequence, headCheck(version, sequence));
    }

    static void spoilRecord(SettingsVault vault, int page, int index, int name, int value, int version) {
        spoilThree(vault, page, index, 1 + name, value, recordCheck(name, value, version));
    }

    static void spoilAll(SettingsVault vault, int page, int value) {
        for (int index = 0; index < 48; index++) {
            vault.spoil(page, index, value);
        }
    }

    // ---- what can be seen

    static void dueCells(String what, SettingsVault vault, int page, int index, int... want) {
        int[] got = new int[want.length];
        for (int i = 0; i < want.length; i++) {
            got[i] = vault.cell(page, index + i);
        }
        dueRow(what + ", page " + page + " from cell " + index, got, want);
    }

    /** The answers of state from one what on. */
    static void dueStates(String when, SettingsVault vault, int from, int... want) {
        int[] got = new int[want.length];
        for (int i = 0; i < want.length; i++) {
            got[i] = vault.state(from + i);
        }
        dueRow(when + ", state from " + from, got, want);
    }

    /** The answers of page from what 0 on. */
    static void duePage(String when, SettingsVault vault, int page, int... want) {
        int[] got = new int[want.length];
        for (int what = 0; what < want.length; what++) {
            got[what] = vault.page(page, what);
        }
        dueRow(when + ", page " + page, got, want);
    }

    static void dueSetting(SettingsVault vault, int version, int name, int greatest, int defaultValue, int before) {
        int[] got = {vault.layout(version, name, 0), vault.layout(version, name, 1), vault.layout(version, name, 2)};
        dueRow("version " + version + " setting " + name, got, greatest, defaultValue, before);
    }

    /** What can be seen without changing it, but for the images: 166 calls. */
    static int[] look(SettingsVault vault) {
        int[] seen = new int[166];
        int at = 0;
        for (int what = 0; what < 13; what++) {
            seen[at++] = vault.state(what);
        }
        for (int page = 0; page < 2; page++) {
            for (int what = 0; what < 6; what++) {
                seen[at++] = vault.page(page, what);
            }
            for (int index = 0; index < 48; index++) {
                seen[at++] = vault.cell(page, index);
            }
        }
        for (int name = 0; name < 10; name++) {
            seen[at++] = vault.get(name);
            seen[at++] = vault.record(name);
        }
        seen[at++] = vault.fault();
        for (int name = 0; name < 4; name++) {
            for (int what = 0; what < 3; what++) {
                seen[at++] = vault.layout(0, name, what);
                seen[at++] = vault.layout(1, name, what);
            }
        }
        return seen;
    }

    static void dueUnchanged(SettingsVault vault, int[] before) {
        dueRow("everything as before", look(vault), before);
    }
}
