import java.io.IOException;
import java.lang.reflect.Method;
import java.lang.reflect.Modifier;
import java.net.URL;
import java.net.URLClassLoader;
import java.nio.file.Files;
import java.nio.file.Path;
import java.util.ArrayList;
import java.util.List;
import java.util.Set;
import java.util.TreeSet;
import java.util.regex.Matcher;
import java.util.regex.Pattern;
import java.util.stream.Stream;
import javax.tools.ToolProvider;

/** What README.md says: its examples compile and answer as their comments say, and it leaves out no call and no test. */
public final class ReadmeTest extends Checks {
    /** A line that keeps an answer, and the number that its comment begins with. */
    private static final Pattern ANSWER = Pattern.compile("(?m)^(?:int|long) (\\w+) = .*; +// (-?\\d+): .*$");

    public static void main(String[] args) throws Exception {
        String readme = Files.readString(Path.of("README.md"));
        List<String> examples = examples(readme);
        due("examples", examples.size(), 2);
        for (String example : examples) answersAsItSays(example);
        tellsEachCall(readme);
        tellsHowToRunTheTests(readme);
        end();
    }

    private static List<String> examples(String readme) {
        List<String> found = new ArrayList<>();
        Matcher blocks = Pattern.compile("(?s)```java\n(.*?)```").matcher(readme);
        while (blocks.find()) found.add(blocks.group(1));
        return found;
    }

    private static void answersAsItSays(String example) throws Exception {
        StringBuilder answers = new StringBuilder();
        List<Long> said = new ArrayList<>();
        List<String> names = new ArrayList<>();
        Matcher lines = ANSWER.matcher(example);
        while (lines.find()) {
            names.add(lines.group(1));
            said.add(Long.parseLong(lines.group(2)));
            answers.append(answers.length() == 0 ? "" : ", ").append(lines.group(1));
        }
        due("each answer that is kept has its number", names.size(), example.lines().filter(l -> l.matches("(int|long) .*")).count());
        long[] got = run(example, answers.toString());
        due("answers", got.length, said.size());
        for (int i = 0; i < got.length; i++) due("README: " + names.get(i), got[i], said.get(i));
    }

    private static long[] run(String example, String answers) throws Exception {
        Path folder = Files.createTempDirectory("readme");
        Path source = folder.resolve("Example.java");
        try {
            Files.writeString(source, "public final class Example { public static long[] answers() {\n" + example
                + "return new long[] {" + answers + "}; } }\n");
            int code = ToolProvider.getSystemJavaCompiler().run(null, null, null, "-d", folder.toString(),
                "-cp", System.getProperty("java.class.path"), source.toString());
            due("README: an example compiles", code, 0);
            if (code != 0) return new long[0];
            try (URLClassLoader loader = new URLClassLoader(new URL[] {folder.toUri().toURL()})) {
                return (long[]) loader.loadClass("Example").getMethod("answers").invoke(null);
            }
        } finally {
            Files.deleteIfExists(folder.resolve("Example.class"));
            Files.delete(source);
            Files.delete(folder);
        }
    }

    private static void tellsEachCall(String readme) {
        for (Method m : NightRounds.class.getDeclaredMethods()) {
            if (!Modifier.isPublic(m.getModifiers())) continue;
            Matcher call = Pattern.compile("`" + m.getName() + "\\(([^)]*)\\)`").matcher(readme);
            boolean found = call.find();
            due("README tells " + m.getName(), found ? 1 : 0, 1);
            if (found) due(m.getName() + " takes", Stream.of(call.group(1).split(",")).filter(p -> !p.isBlank()).count(), m.getParameterCount());
        }
        for (String name : List.of("BAD", "NO", "FULL")) due("README tells " + name, readme.contains("`" + name + "`") ? 1 : 0, 1);
    }

    private static void tellsHowToRunTheTests(String readme) throws IOException {
        List<String> typed = readme.lines().filter(line -> line.startsWith("    ") && !line.trim().startsWith("night.")).toList();
        due("what is to be typed is .ci/run alone", typed.equals(List.of("    .ci/run")) ? 1 : 0, 1);
        due(".ci/run can be called so", Files.isExecutable(Path.of(".ci/run")) ? 1 : 0, 1);
        Set<String> told = new TreeSet<>();
        Matcher names = Pattern.compile("(?m)^- `(\\w+)`: ").matcher(readme);
        while (names.find()) told.add(names.group(1) + ".java");
        Set<String> tests = new TreeSet<>();
        try (Stream<Path> files = Files.list(Path.of("src/test/java"))) {
            files.forEach(file -> tests.add(file.getFileName().toString()));
        }
        due("README tells of " + told + ", there are " + tests, told.equals(tests) ? 1 : 0, 1);
    }
}
