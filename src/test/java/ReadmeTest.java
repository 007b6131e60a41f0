import java.io.IOException;
import java.lang.reflect.Modifier;
import java.net.URL;
import java.net.URLClassLoader;
import java.nio.file.Files;
import java.nio.file.Path;
import java.util.ArrayList;
import java.util.Arrays;
import java.util.Comparator;
import java.util.List;
import java.util.regex.Matcher;
import java.util.regex.Pattern;
import java.util.stream.Stream;
import javax.tools.ToolProvider;

/** The example of README.md compiles, and each of its calls answers what stands behind it. */
public final class ReadmeTest {
    private static final Path README = Path.of("README.md");
    private static final Pattern BLOCK = Pattern.compile("```java\n(.*?)```", Pattern.DOTALL);
    private static final Pattern CALL = Pattern.compile("(?m)^(pool\\.\\w+\\(.*\\)); +// ([^ :\n]+)(:.*)?$");

    private ReadmeTest() {
    }

    public static void main(String[] args) throws Exception {
        String readme = Files.readString(README);
        List<String> blocks = found(BLOCK, readme, 1);
        Check.same("blocks of Java", 2, blocks::size);
        if (blocks.size() == 2) {
            answers(blocks.get(0), blocks.get(1));
        }
        Check.same("methods that are not told of", List.of(), () -> untold(readme));
        Check.same("tests that are not told of", List.of(), () -> testsUntold(readme));
        Check.end();
    }

    private static List<String> found(Pattern pattern, String text, int group) {
        List<String> found = new ArrayList<>();
        Matcher matcher = pattern.matcher(text);
        while (matcher.find()) {
            found.add(matcher.group(group));
        }
        return found;
    }

    /** Every line that calls the pool must tell an answer, so that none goes without a check. */
    private static void answers(String helpers, String example) throws Exception {
        List<String> calls = found(CALL, example, 1);
        List<String> due = found(CALL, example, 2);
        long lines = example.lines().filter(line -> line.startsWith("pool.")).count();
        Check.same("calls without an answer", 0L, () -> lines - calls.size());
        List<?> got = run(helpers, CALL.matcher(example).replaceAll("told.add(String.valueOf($1));"));
        Check.same("answers", calls.size(), got::size);
        for (int at = 0; at < Math.min(calls.size(), got.size()); at++) {
            Object answer = got.get(at);
            Check.same(calls.get(at), due.get(at), () -> answer);
        }
    }

    private static List<?> run(String helpers, String steps) throws Exception {
        Path folder = Files.createTempDirectory("readme");
        try {
            Path source = folder.resolve("Example.java");
            Files.writeString(source, "public final class Example {\n" + helpers
                    + "public static java.util.List<String> run() {\n"
                    + "java.util.List<String> told = new java.util.ArrayList<>();\n" + steps + "return told;\n}\n}\n");
            int error = ToolProvider.getSystemJavaCompiler().run(null, null, null, "-d", folder.toString(), "-cp",
                    System.getProperty("java.class.path"), source.toString());
            Check.same("compiling the example", 0, () -> error);
            return error == 0 ? told(folder) : List.of();
        } finally {
            remove(folder);
        }
    }

    private static List<?> told(Path folder) throws Exception {
        try (URLClassLoader loader = new URLClassLoader(new URL[] {folder.toUri().toURL()})) {
            return (List<?>) loader.loadClass("Example").getMethod("run").invoke(null);
        }
    }

    private static void remove(Path folder) throws IOException {
        try (Stream<Path> files = Files.walk(folder)) {
            for (Path file : files.sorted(Comparator.reverseOrder()).toList()) {
                Files.delete(file);
            }
        }
    }

    private static List<String> untold(String readme) {
        return Arrays.stream(PatentPool.class.getDeclaredMethods())
                .filter(method -> Modifier.isPublic(method.getModifiers())).map(method -> method.getName())
                .filter(name -> !readme.contains("`" + name + "`") && !readme.contains("pool." + name + "("))
                .sorted().toList();
    }

    private static List<String> testsUntold(String readme) {
        String[] files = Path.of("src/test/java").toFile().list((folder, name) -> name.endsWith("Test.java"));
        return Stream.of(files == null ? new String[0] : files).map(name -> name.replace(".java", ""))
                .filter(name -> !readme.contains("| " + name + " |")).sorted().toList();
    }
}
