import java.lang.reflect.Constructor;
import java.lang.reflect.Field;
import java.lang.reflect.Method;
import java.lang.reflect.Modifier;
import java.nio.file.Files;
import java.nio.file.Path;
import java.util.ArrayList;
import java.util.Arrays;
import java.util.List;
import java.util.TreeSet;

/** The class has the face of the document and nothing else that others can see. */
public final class FaceTest {
    private static final Path DOCUMENT = Path.of("../shared/DOC.md");

    public static void main(String[] args) throws Exception {
        Check.same("the class", "public final", () -> Modifier.toString(PatentPool.class.getModifiers()));
        Check.same("members of the face", face(Files.readAllLines(DOCUMENT)), FaceTest::visible);
        Check.same("names used twice", List.of(), FaceTest::namesUsedTwice);
        Check.same("static state", List.of(), FaceTest::staticState);
        Check.end();
    }

    /** The lines of the document's face, in the words of reflection. */
    private static TreeSet<String> face(List<String> document) {
        TreeSet<String> lines = new TreeSet<>();
        for (String line : document) {
            String text = line.strip();
            if (line.startsWith("    public ") && text.endsWith(";")) {
                lines.add(text.substring(0, text.length() - 1).replaceAll("(int|long|boolean) \\w+([,)])", "$1$2")
                        .replaceAll(", ", ",").replaceAll(" = .*", ""));
            }
        }
        return lines;
    }

    private static TreeSet<String> visible() {
        TreeSet<String> lines = new TreeSet<>();
        for (Field field : PatentPool.class.getDeclaredFields()) {
            add(lines, field.getModifiers(), field.toString().replace("PatentPool.", ""));
        }
        for (Method method : PatentPool.class.getDeclaredMethods()) {
            add(lines, method.getModifiers(), method.toString().replace("PatentPool.", "")
                    .replace("java.lang.", ""));
        }
        for (Constructor<?> constructor : PatentPool.class.getDeclaredConstructors()) {
            add(lines, constructor.getModifiers(), constructor.toString());
        }
        return lines;
    }

    private static void add(TreeSet<String> lines, int modifiers, String text) {
        if (!Modifier.isPrivate(modifiers)) {
            lines.add(text);
        }
    }

    private static List<String> namesUsedTwice() {
        List<String> twice = new ArrayList<>();
        List<String> face = Arrays.stream(PatentPool.class.getDeclaredMethods())
                .filter(method -> Modifier.isPublic(method.getModifiers())).map(Method::getName).toList();
        List<Class<?>> classes = new ArrayList<>(List.of(PatentPool.class.getDeclaredClasses()));
        for (Class<?> inner : classes) {
            for (Method method : inner.getDeclaredMethods()) {
                if (face.contains(method.getName())) {
                    twice.add(inner.getSimpleName() + "." + method.getName());
                }
            }
        }
        for (Method method : PatentPool.class.getDeclaredMethods()) {
            if (!Modifier.isPublic(method.getModifiers()) && face.contains(method.getName())) {
                twice.add(method.getName());
            }
        }
        return twice;
    }

    private static List<String> staticState() {
        List<String> found = new ArrayList<>();
        List<Class<?>> classes = new ArrayList<>(List.of(PatentPool.class.getDeclaredClasses()));
        classes.add(PatentPool.class);
        for (Class<?> one : classes) {
            for (Field field : one.getDeclaredFields()) {
                if (Modifier.isStatic(field.getModifiers()) && !Modifier.isFinal(field.getModifiers())) {
                    found.add(field.toString());
                }
            }
        }
        return found;
    }
}
