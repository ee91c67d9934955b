import java.io.IOException;
import java.net.URL;
import java.net.URLClassLoader;
import java.nio.file.Files;
import java.nio.file.Path;
import java.util.ArrayList;
import java.util.List;
import java.util.regex.Matcher;
import java.util.regex.Pattern;

/** The pieces of Java in README.md are one program, and each call answers what stands behind it. */
public final class ReadmeTest extends Check {
    private static final Pattern CALL = Pattern.compile("(vault\\.\\w+\\(.*\\)); *// (-?\\d+|[A-Z_]+)(: .*)?");
    private static final String[] FACE = {
        "define", "layout", "fail", "start", "get", "set", "compact", "migrate", "factory", "cell", "spoil", "page",
        "state", "record", "ifMigrated", "ifFailed", "put", "wipe", "fault", "keep", "back"};

    private final List<String> calls = new ArrayList<>();
    private final StringBuilder methods = new StringBuilder();
    private final StringBuilder body = new StringBuilder();

    public static void main(String[] args) throws Exception {
        String readme = Files.readString(Path.of("README.md"));
        for (String method : FACE) {
            due("README.md shows " + method, readme.contains("vault." + method + "(") ? 1 : 0, 1);
        }
        due("README.md tells how the tests are run", readme.contains("\n.ci/run\n") ? 1 : 0, 1);
        ReadmeTest test = new ReadmeTest();
        String[] pieces = readme.split("```java\n");
        for (int i = 1; i < pieces.length; i++) {
            test.take(pieces[i].substring(0, pieces[i].indexOf("```")));
        }
        due("pieces with calls", test.calls.size() > 0 ? 1 : 0, 1);
        int[] answers = test.run();
        for (int i = 0; i < answers.length; i += 2) {
            due("README.md: " + test.calls.get(i / 2), answers[i], answers[i + 1]);
        }
        end();
    }

    private void take(String piece) {
        if (piece.startsWith("static ")) {
            methods.append(piece);
            return;
        }
        for (String line : piece.split("\n")) {
            Matcher call = CALL.matcher(line);
            if (call.matches()) {
                calls.add(call.group(1));
                body.append("row[at++] = ").append(call.group(1)).append(";\n");
                body.append("row[at++] = ").append(answer(call.group(2))).append(";\n");
            } else {
                due("a call without its answer: " + line, line.startsWith("vault.") ? 1 : 0, 0);
                body.append(line).append('\n');
            }
        }
    }

    private static String answer(String told) {
        return Character.isUpperCase(told.charAt(0)) ? "SettingsVault." + told : told;
    }

    /** Each answer, and the one that README.md tells behind it. */
    private int[] run() throws Exception {
        String program = "public class Readme {\n" + methods
            + "public static int[] run() {\nint[] row = new int[" + 2 * calls.size() + "];\nint at = 0;\n"
            + body + "return row;\n}\n}\n";
        Path place = Files.createTempDirectory("readme");
        try {
            Path file = Files.writeString(place.resolve("Readme.java"), program);
            // The same javac as in .ci/run: a compiler inside the machine need not be there.
            int failed = new ProcessBuilder("javac", "-cp", System.getProperty("java.class.path"),
                "-d", place.toString(), file.toString()).inheritIO().start().waitFor();
            due("compiling README.md's pieces", failed, 0);
            return failed == 0 ? runCompiled(place) : new int[0];
        } finally {
            delete(place);
        }
    }

    private static int[] runCompiled(Path place) throws Exception {
        try (URLClassLoader loader = new URLClassLoader(new URL[] {place.toUri().toURL()})) {
            return (int[]) loader.loadClass("Readme").getMethod("run").invoke(null);
        }
    }

    private static void delete(Path place) throws IOException {
        Files.deleteIfExists(place.resolve("Readme.class"));
        Files.deleteIfExists(place.resolve("Readme.java"));
        Files.delete(place);
    }
}
