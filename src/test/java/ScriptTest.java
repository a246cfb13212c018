import java.io.IOException;
import java.nio.file.Files;
import java.nio.file.Path;
import java.util.Comparator;
import java.util.stream.Stream;

/** What .ci/run does: it runs each test of both folders, and fails if one fails. Tried on small projects made for it. */
public final class ScriptTest extends Checks {
    private static final String CLASS = "public final class NightRounds { public long digest() { return 1973; } }";
    private static final String PASSES = "System.out.println(\"runs\");";
    private static final String FAILS = "System.out.println(\"runs\"); System.exit(1);";
    private static final String WARNED_OF = "long d = (long) new NightRounds().digest(); System.out.println(\"runs\" + d);";
    private static final String NO_JAVA = "no java";

    public static void main(String[] args) throws IOException, InterruptedException {
        due("it can be called by its name", Files.isExecutable(Path.of(".ci/run")) ? 1 : 0, 1);
        passes("both pass", "src/test/java/Own", PASSES, "../shared/tests/Given", PASSES);
        passes("a test of others that javac warns of", "src/test/java/Own", PASSES, "../shared/tests/Given", WARNED_OF);
        fails("a test of the project fails", 2, 1, "src/test/java/Own", FAILS, "../shared/tests/Given", PASSES);
        fails("a test of others fails", 2, 1, "src/test/java/Own", PASSES, "../shared/tests/Given", FAILS);
        fails("a test of others in a folder of its own fails", 3, 1,
            "src/test/java/Own", PASSES, "../shared/tests/Given", PASSES, "../shared/tests/more/Another", FAILS);
        fails("a test of others is no Java", 1, 1, "src/test/java/Own", PASSES, "../shared/tests/Given", NO_JAVA);
        fails("the project has no test", 1, 1, "../shared/tests/Given", PASSES);
        fails("there is no test of others", 1, 1, "src/test/java/Own", PASSES);
        end();
    }

    private static void passes(String what, String... tests) throws IOException, InterruptedException {
        runs(what, tests.length / 2, 0, tests);
    }

    private static void fails(String what, int ran, int failed, String... tests) throws IOException, InterruptedException {
        runs(what, ran, failed, tests);
    }

    private static void runs(String what, int ran, int failed, String... tests) throws IOException, InterruptedException {
        Path place = Files.createTempDirectory("script");
        try {
            Path project = place.resolve("main");
            write(project.resolve(".ci/run"), Files.readString(Path.of(".ci/run")));
            write(project.resolve("src/main/java/NightRounds.java"), CLASS);
            Files.createDirectories(project.resolve("src/test/java"));
            Files.createDirectories(project.resolve("src/test/help"));
            Files.createDirectories(place.resolve("shared/tests"));
            for (int i = 0; i + 1 < tests.length; i += 2) writeTest(project.resolve(tests[i]).normalize(), tests[i + 1]);
            Path told = place.resolve("told");
            int code = new ProcessBuilder("sh", ".ci/run").directory(project.toFile()).redirectErrorStream(true)
                .redirectOutput(told.toFile()).start().waitFor();
            String text = Files.readString(told);
            due(what + ": the exit code is 0", code == 0 ? 1 : 0, failed == 0 ? 1 : 0);
            due(what + ": tests that ran", text.lines().filter(line -> line.startsWith("runs")).count(), ran);
            due(what + ": its last line tells how many failed", text.endsWith(" passed, " + failed + " failed\n") ? 1 : 0, 1);
        } finally {
            remove(place);
        }
    }

    private static void writeTest(Path path, String body) throws IOException {
        String name = path.getFileName().toString();
        write(path.resolveSibling(name + ".java"), body.equals(NO_JAVA) ? body
            : "public final class " + name + " { public static void main(String[] args) { " + body + " } }");
    }

    private static void write(Path path, String text) throws IOException {
        Files.createDirectories(path.getParent());
        Files.writeString(path, text);
    }

    private static void remove(Path place) throws IOException {
        try (Stream<Path> paths = Files.walk(place)) {
            for (Path path : paths.sorted(Comparator.reverseOrder()).toList()) Files.delete(path);
        }
    }
}
