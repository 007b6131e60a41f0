import java.nio.charset.StandardCharsets;
import java.util.Arrays;

/** What all tests share: comparing answers, telling exceptions, putting texts into a pool. */
final class Check {
    interface Call {
        Object answer();
    }

    private static int wrong = 0;
    private static int done = 0;

    private Check() {
    }

    static void same(String what, Object want, Call call) {
        done++;
        String got = outcome(call);
        if (!got.equals(String.valueOf(want))) {
            wrong++;
            System.out.println(what + ": answered " + got + ", due is " + want);
        }
    }

    static void index(String what, Call call) {
        same(what, "throws.IndexOutOfBoundsException", call);
    }

    static void argument(String what, Call call) {
        same(what, "throws.IllegalArgumentException", call);
    }

    static void state(String what, Call call) {
        same(what, "throws.IllegalStateException", call);
    }

    /** The answer as a text; of an exception the name of its very class, so that a subclass differs. */
    static String outcome(Call call) {
        try {
            return String.valueOf(call.answer());
        } catch (RuntimeException e) {
            return "throws." + e.getClass().getSimpleName();
        }
    }

    /** Appends a text, filled up with spaces; returns its own length. */
    static int put(PatentPool pool, String text) {
        byte[] bytes = text.getBytes(StandardCharsets.ISO_8859_1);
        byte[] full = Arrays.copyOf(bytes, (bytes.length + 19) / 20 * 20);
        Arrays.fill(full, bytes.length, full.length, (byte) ' ');
        for (int at = 0; at < full.length; at += 20) {
            pool.append(four(full, at), four(full, at + 4), four(full, at + 8), four(full, at + 12),
                    four(full, at + 16));
        }
        return bytes.length;
    }

    static int four(byte[] bytes, int at) {
        return (bytes[at] & 255) << 24 | (bytes[at + 1] & 255) << 16 | (bytes[at + 2] & 255) << 8
                | bytes[at + 3] & 255;
    }

    static int parse(PatentPool pool, String text) {
        return pool.parse(put(pool, text));
    }

    /** A new pool with a text that must be valid. */
    static PatentPool pool(String text) {
        PatentPool pool = new PatentPool();
        same("parse of " + text, 0, () -> parse(pool, text));
        return pool;
    }

    static void error(String text, int code, int position) {
        PatentPool pool = new PatentPool();
        same("parse of " + text, code, () -> parse(pool, text));
        same("errorPosition after " + text, position, pool::errorPosition);
    }

    /** Lets the first yes reviewers vote yes, and the next no reviewers vote no. */
    static void votes(PatentPool pool, int patent, int version, int yes, int no) {
        for (int reviewer = 0; reviewer < yes + no; reviewer++) {
            pool.vote(reviewer, patent, version, reviewer < yes);
        }
    }

    static int done() {
        return done;
    }

    static int wrong() {
        return wrong;
    }

    static void end() {
        System.out.println(done + " checks, " + wrong + " wrong");
        if (wrong != 0) {
            System.exit(1);
        }
    }
}
