import java.lang.reflect.InvocationTargetException;
import java.lang.reflect.Method;
import java.util.ArrayList;
import java.util.Arrays;
import java.util.Comparator;
import java.util.List;
import java.util.Random;

/** Random runs of calls on the class and on the model of the document, all of whose answers must agree. */
public final class ModelTest {
    private static final int RUNS = 1500;
    private static final int CALLS = 512;
    private static final String[] WORDS = {"member", "version", "patent", "licensee", "quorum", "cap", "costs",
        "reserve", "late", "credit", "penalty", "weight", "patents", "pairs", "days", "(", ")", "+", "-", "*", "/",
        ";", "0", "1", "2", "5", "100", "101", "9999", "10000", "x", "!", "memberss"};
    private static final String[] CHANGES = {"vote", "vote", "vote", "vote", "vote", "report", "report", "audit",
        "pay", "pay", "close", "close", "advance", "join", "declare", "reopen", "grantBack", "payOut", "undo",
        "saveSnapshot", "restoreSnapshot"};

    private final Random random;
    private final PatentPool pool = new PatentPool();
    private final PoolModel model = new PoolModel();
    private final List<String> told = new ArrayList<>();
    private static final Method[] METHODS = methods();

    private ModelTest(long seed) {
        random = new Random(seed);
    }

    public static void main(String[] args) {
        int wrong = 0;
        for (long seed = 1; seed <= RUNS && wrong == 0; seed++) {
            wrong += new ModelTest(seed).run(seed) ? 0 : 1;
        }
        System.out.println(RUNS + " runs, " + wrong + " wrong");
        if (wrong != 0) {
            System.exit(1);
        }
    }

    private static Method[] methods() {
        Method[] methods = PatentPool.class.getDeclaredMethods();
        Method[] face = Arrays.stream(methods).filter(m -> java.lang.reflect.Modifier.isPublic(m.getModifiers()))
                .toArray(Method[]::new);
        Arrays.sort(face, Comparator.comparing(Method::getName));
        return face;
    }

    private static Method method(String name) {
        for (Method method : METHODS) {
            if (method.getName().equals(name)) {
                return method;
            }
        }
        throw new IllegalStateException(name);
    }

    private boolean run(long seed) {
        boolean fine = text(validText());
        for (int number = 0; fine && number < CALLS; number++) {
            int kind = random.nextInt(100);
            if (kind == 0) {
                fine = text(random.nextInt(3) > 0 ? brokenText() : validText());
            } else if (kind < 70) {
                fine = call(method(CHANGES[random.nextInt(CHANGES.length)]));
            } else {
                fine = call(METHODS[random.nextInt(METHODS.length)]);
            }
        }
        if (!fine) {
            System.out.println("seed " + seed);
            told.forEach(System.out::println);
        }
        return fine;
    }

    // ---- calls

    private boolean call(Method method) {
        Object[] arguments = new Object[method.getParameterCount()];
        for (int at = 0; at < arguments.length; at++) {
            arguments[at] = method.getParameterTypes()[at] == boolean.class ? random.nextInt(3) > 0
                    : (Object) argument(method.getName(), at, arguments);
        }
        return compare(method, arguments);
    }

    private boolean compare(Method method, Object... arguments) {
        String got = answer(pool, method, arguments);
        String due;
        try {
            due = answer(model, PoolModel.class.getMethod(method.getName(), method.getParameterTypes()), arguments);
        } catch (NoSuchMethodException e) {
            throw new IllegalStateException(e);
        }
        told.add(method.getName() + Arrays.toString(arguments) + " answered " + got);
        if (!got.equals(due)) {
            told.add("due is " + due);
        }
        return got.equals(due);
    }

    private static String answer(Object object, Method method, Object... arguments) {
        try {
            return String.valueOf(method.invoke(object, arguments));
        } catch (InvocationTargetException e) {
            return "throws." + e.getCause().getClass().getSimpleName();
        } catch (IllegalAccessException e) {
            throw new IllegalStateException(e);
        }
    }

    private int argument(String method, int at, Object[] before) {
        if (random.nextInt(200) == 0) {
            int[] extreme = {Integer.MIN_VALUE, Integer.MAX_VALUE, -1, 1 << 30, 10000, 99999, 100000};
            return extreme[random.nextInt(extreme.length)];
        }
        switch (method + at) {
            case "append0", "append1", "append2", "append3", "append4":
                return random.nextBoolean() ? 0x20202020 : random.nextInt();
            case "parse0":
                return random.nextInt(3) == 0 ? 0 : random.nextInt(60) - 1;
            case "size0":
                return near(4);
            case "total0":
                return near(5);
            case "saveSnapshot0", "restoreSnapshot0":
                return near(2);
            case "advance0":
                return random.nextInt(30) == 0 ? random.nextInt(10001) : random.nextInt(6);
            case "weightAfter1":
                return random.nextInt(4) == 0 ? random.nextInt(10001) : random.nextInt(40);
            case "shareOf1":
                return random.nextBoolean() ? random.nextInt(1001) - 1 : random.nextInt(1000000010);
            case "declare1":
                return random.nextInt(4) == 0 ? random.nextInt(10001) : model.today() + random.nextInt(60);
            case "report2":
                return random.nextInt(4) == 0 ? random.nextInt(10001) : random.nextInt(50);
            case "audit2":
                return random.nextInt(3) == 0 ? random.nextInt(100001) : random.nextInt(200);
            case "pay1":
                return payment((Integer) before[0]);
            case "vote0":
                return near(5);
            default:
                return near(sizeOf(method, at));
        }
    }

    private int sizeOf(String method, int at) {
        boolean licensee = List.of("owed", "reported", "report", "grantBack", "pay", "audit").contains(method);
        boolean patent = List.of("decision", "voters", "votesNeeded", "counts", "reopen").contains(method);
        if (method.equals("vote")) {
            return model.size(at == 1 ? 2 : 1);
        }
        return model.size(at == 1 ? 1 : licensee ? 3 : patent ? 2 : 0);
    }

    /** A number below a size, seldom one beside that range. */
    private int near(int size) {
        return random.nextInt(40) == 0 ? random.nextInt(size + 2) - 1 : size == 0 ? 0 : random.nextInt(size);
    }

    private int payment(int licensee) {
        if (licensee < 0 || licensee >= model.size(3)) {
            return 1;
        }
        long most = Math.min(model.owed(licensee) + 1, Integer.MAX_VALUE);
        int kind = random.nextInt(6);
        return kind == 0 ? (int) most : kind == 1 ? (int) Math.min(most, model.owed(licensee))
                : (int) (random.nextDouble() * most);
    }

    // ---- texts

    private boolean text(String text) {
        byte[] bytes = text.getBytes(java.nio.charset.StandardCharsets.ISO_8859_1);
        byte[] full = Arrays.copyOf(bytes, Math.min(700, (bytes.length + 19) / 20 * 20));
        Arrays.fill(full, Math.min(full.length, bytes.length), full.length, (byte) ' ');
        told.add("text " + text.replace('\n', '|'));
        boolean fine = compare(method("parse"), 0);
        for (int at = 0; fine && at < full.length; at += 20) {
            fine = compare(method("append"), Check.four(full, at), Check.four(full, at + 4),
                    Check.four(full, at + 8), Check.four(full, at + 12), Check.four(full, at + 16));
        }
        int length = Math.min(700, bytes.length);
        return fine && compare(method("parse"), length) && compare(method("errorPosition"));
    }

    private int upTo(int most) {
        return random.nextInt(most + 1);
    }

    private String validText() {
        List<String> statements = new ArrayList<>();
        int members = random.nextInt(10) == 0 ? upTo(8) : 1 + random.nextInt(5);
        for (int member = 0; member < members; member++) {
            statements.add("member " + (random.nextInt(3) == 0 ? upTo(30) : 0));
        }
        int versions = random.nextInt(10) == 0 ? upTo(4) : 1 + random.nextInt(3);
        for (int version = 0; version < versions; version++) {
            statements.add("version " + (random.nextInt(3) == 0 ? upTo(20) : 0) + " "
                    + (random.nextInt(4) == 0 ? 1 + upTo(9998) : 1 + upTo(50)));
        }
        int patents = members == 0 ? 0 : random.nextInt(4) == 0 ? upTo(16) : upTo(6);
        for (int patent = 0; patent < patents; patent++) {
            statements.add("patent " + random.nextInt(members) + " " + (random.nextBoolean() ? 9999 : 1 + upTo(60)));
        }
        int licensees = random.nextInt(10) == 0 ? upTo(6) : 1 + random.nextInt(3);
        for (int licensee = 0; licensee < licensees; licensee++) {
            statements.add("licensee " + (random.nextBoolean() ? 0 : upTo(100)));
        }
        int fixed = members;
        rules().forEach(rule -> statements.add(fixed + random.nextInt(statements.size() - fixed + 1), rule));
        return joined(statements);
    }

    private List<String> rules() {
        List<String> rules = new ArrayList<>();
        String[] all = {"quorum " + (1 + upTo(random.nextInt(3) == 0 ? 4 : 1)) + " " + (1 + upTo(99)),
            "cap " + (1 + upTo(99)), "costs " + upTo(50), "reserve " + upTo(40),
            "late " + (random.nextInt(4) == 0 ? upTo(9999) : upTo(20)) + " " + upTo(100),
            "credit " + (random.nextBoolean() ? upTo(9999) : upTo(50)) + " " + upTo(100), "penalty " + upTo(400),
            "weight " + sum(0)};
        for (String rule : all) {
            if (random.nextInt(3) > 0) {
                rules.add(rule);
            }
        }
        return rules;
    }

    private String joined(List<String> statements) {
        StringBuilder text = new StringBuilder();
        for (String statement : statements) {
            text.append(statement).append(random.nextInt(9) == 0 ? " ;\n " : ";");
        }
        return text.toString();
    }

    private String sum(int depth) {
        StringBuilder text = new StringBuilder(factor(depth));
        int more = random.nextInt(depth > 2 ? 3 : 5);
        for (int count = 0; count < more; count++) {
            text.append("+-**//".charAt(random.nextInt(6))).append(factor(depth));
        }
        return text.toString();
    }

    private String factor(int depth) {
        switch (random.nextInt(depth < 5 ? 8 : 6)) {
            case 0:
                return "patents";
            case 1:
                return "pairs";
            case 2:
                return "days";
            case 3:
                return String.valueOf(upTo(9999));
            case 4, 5:
                return String.valueOf(upTo(9));
            default:
                return "(" + sum(depth + 1) + ")";
        }
    }

    private String brokenText() {
        StringBuilder text = new StringBuilder(validText());
        int times = 1 + random.nextInt(3);
        for (int time = 0; time < times; time++) {
            int at = random.nextInt(text.length() + 1);
            switch (random.nextInt(5)) {
                case 0:
                    text.setLength(at);
                    break;
                case 1:
                    text.insert(at, WORDS[random.nextInt(WORDS.length)]);
                    break;
                case 2:
                    text.insert(at, " " + WORDS[random.nextInt(WORDS.length)] + " ");
                    break;
                case 3:
                    text.insert(at, (char) random.nextInt(256));
                    break;
                default:
                    text.delete(at, Math.min(text.length(), at + 1 + random.nextInt(4)));
                    break;
            }
        }
        return text.toString();
    }
}
