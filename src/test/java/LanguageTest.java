import java.nio.file.Files;
import java.nio.file.Path;
import java.util.ArrayList;
import java.util.List;
import java.util.regex.Matcher;
import java.util.regex.Pattern;

/** What can be seen in the source of the rules in LANGUAGE.md; not all of them can. */
public final class LanguageTest {
    private static final Path SOURCE = Path.of("src/main/java/PatentPool.java");
    private static final int LONGEST_METHOD = 60;
    private static final int MOST_CLASSES = 12;
    private static final int MOST_FIELDS = 20;
    private static final int MOST_PARAMETERS = 7;

    public static void main(String[] args) throws Exception {
        List<String> lines = Files.readAllLines(SOURCE);
        String code = String.join("\n", lines).replaceAll("(?s)/\\*.*?\\*/", "").replaceAll("//[^\n]*", "");
        Check.same("imports", List.of("import java.util.Arrays;"), () -> found(code, "import [^;]*;"));
        Check.same("words that are ruled out", List.of(), () -> found(code,
                "\\b(try|catch|finally|synchronized|assert|package|protected|double|float|Object|Exception"
                        + "|getMessage|hashCode|toString|static\\s*\\{)\\b|->|::|\\w+Exact\\b"));
        Check.same("library calls that are ruled out", List.of(), () -> found(code,
                "\\b(Math|Integer|Long|System|Arrays)\\.(?!max\\b|min\\b|bitCount\\b|arraycopy\\b|fill\\b)\\w+"));
        Check.same("exceptions that are ruled out", List.of(), () -> found(code,
                "throw (?!new (IllegalState|IllegalArgument|IndexOutOfBounds)Exception\\(\"[^\"+]*\"\\);)[^;]*;"));
        Check.same("classes", true, () -> found(code, "\\bclass \\w+").size() <= MOST_CLASSES);
        Check.same("long methods", List.of(), () -> longMethods(lines));
        Check.same("classes with many fields", List.of(), LanguageTest::manyFields);
        Check.same("methods with many parameters", List.of(), () -> manyParameters(code));
        Check.end();
    }

    private static List<String> found(String code, String pattern) {
        List<String> found = new ArrayList<>();
        Matcher matcher = Pattern.compile(pattern).matcher(code);
        while (matcher.find()) {
            found.add(matcher.group());
        }
        return found;
    }

    private static List<String> longMethods(List<String> lines) {
        List<String> found = new ArrayList<>();
        for (int depth = 4; depth <= 8; depth += 4) {
            String indent = " ".repeat(depth);
            int start = -1;
            for (int at = 0; at < lines.size(); at++) {
                String line = lines.get(at);
                if (line.matches(indent + "\\w.*\\(.*") && !line.contains(";")) {
                    start = at;
                } else if (line.equals(indent + "}") && start >= 0) {
                    if (at - start + 1 > LONGEST_METHOD) {
                        found.add(lines.get(start).strip());
                    }
                    start = -1;
                }
            }
        }
        return found;
    }

    private static List<String> manyFields() {
        List<String> found = new ArrayList<>();
        List<Class<?>> classes = new ArrayList<>(List.of(PatentPool.class.getDeclaredClasses()));
        classes.add(PatentPool.class);
        for (Class<?> one : classes) {
            long fields = List.of(one.getDeclaredFields()).stream()
                    .filter(field -> !java.lang.reflect.Modifier.isStatic(field.getModifiers())).count();
            if (fields > MOST_FIELDS) {
                found.add(one.getSimpleName());
            }
        }
        return found;
    }

    private static List<String> manyParameters(String code) {
        List<String> found = new ArrayList<>();
        for (String list : found(code, "\\w+ \\w+\\((int|long|boolean|byte|Terms|Ledger|String)[^)]*\\)")) {
            if (list.split(",").length > MOST_PARAMETERS) {
                found.add(list);
            }
        }
        return found;
    }
}
