/** The sentences of promises 1 to 7: a new object, its input buffer, texts, sizes, day and period. */
final class TextPromises {
    private static final String OUT_OF_RANGE = "IllegalArgumentException";

    private TextPromises() {
    }

    static void run() {
        Sentences.of("Promise 1")
                .says("Creates a ledger of an empty pool (no members, versions, patents and licensees, everything"
                        + " else as without its statement) with an empty input buffer.",
                        TextPromises::newObject);
        Sentences.of("Promise 2")
                .says("Appends 20 bytes to the input buffer: the four bytes of each argument, the most significant"
                        + " byte first.", TextPromises::twentyBytes)
                .says("Returns the new length of the buffer; NONE, with nothing appended, if it would exceed 700.",
                        TextPromises::lengthOfBuffer);
        Sentences.of("Promise 3")
                .says("Parses the first length bytes of the input buffer as a pool text.", TextPromises::firstBytes)
                .says("On success the described pool replaces the current one.", TextPromises::success)
                .says("On a parse error nothing changes except that the buffer is emptied; it is also empty after a"
                        + " success.", TextPromises::parseError)
                .says("- `length`: 0 to the length of the buffer", TextPromises::lengths)
                .says("Returns 0 on success; the code of the parse error.", TextPromises::codes)
                .says("Throws `IllegalArgumentException` if length is out of range", TextPromises::wrongLengths);
        Sentences.of("Promise 4")
                .says("Returns the position of the parse error of the last call of parse that did not throw an"
                        + " exception.", TextPromises::lastPosition)
                .says("Returns the position; NONE if that call succeeded or there was none.",
                        TextPromises::noPosition);
        sizes();
    }

    private static void sizes() {
        Sentences.of("Promise 5")
                .tellsNoCase("Returns a number of things.")
                .says("- `what`: 0 members, 1 versions, 2 patents, 3 licensees (later ones included)",
                        TextPromises::laterOnes)
                .says("Throws `IllegalArgumentException` if what is out of range", TextPromises::wrongSizes);
        Sentences.of("Promise 6").says("Returns the present day.", TextPromises::presentDay);
        Sentences.of("Promise 7")
                .says("Returns the number of the present period.", TextPromises::presentPeriod);
    }

    private static int append(PatentPool pool) {
        return pool.append(0x20202020, 0x20202020, 0x20202020, 0x20202020, 0x20202020);
    }

    private static void newObject() {
        PatentPool pool = new PatentPool();
        for (int what = 0; what < 4; what++) {
            int kind = what;
            Check.same("size " + kind, 0, () -> pool.size(kind));
        }
        Check.argument("the buffer is empty", () -> pool.parse(1));
        Check.same("the first bytes", 20, () -> append(pool));
        Check.index("no member", () -> pool.weight(0));
        Check.index("no patent and no version", () -> pool.decision(0, 0));
        Check.index("no licensee", () -> pool.owed(0));
        Check.same("no debtor", -1, pool::largestDebtor);
        Check.same("no majority", -1, pool::smallestMajority);
        pool.join();
        pool.declare(0, 5);
        Check.index("no version", () -> pool.decision(0, 0));
        Check.same("the sum is patents", 0, () -> pool.weight(0));
        Check.same("nothing is shared", 0, () -> pool.shareOf(0, 100));
        Trace.same("as after an empty text", PatentPool::new, () -> Check.pool(""));
    }

    private static void twentyBytes() {
        PatentPool pool = new PatentPool();
        pool.append(0x6d656d62, 0x65722037, 0x3b6d656d, 0x62657220, 0x31303b20);
        Check.same("bytes in order", 0, () -> pool.parse(20));
        Check.same("bytes in order: members", 2, () -> pool.size(0));
        for (int at = 0; at < 20; at++) {
            int[] words = {0x20202020, 0x20202020, 0x20202020, 0x20202020, 0x20202020};
            words[at / 4] ^= 0xDF << 24 - at % 4 * 8;
            PatentPool one = new PatentPool();
            one.append(words[0], words[1], words[2], words[3], words[4]);
            Check.same("byte 255 at " + at, 1, () -> one.parse(20));
            int place = at;
            Check.same("byte 255 at " + at + ": place", place, one::errorPosition);
        }
        PatentPool signed = new PatentPool();
        signed.append(-1, Integer.MIN_VALUE, Integer.MAX_VALUE, 0, 0x20202020);
        Check.same("any bytes can be appended", 1, () -> signed.parse(20));
    }

    private static void lengthOfBuffer() {
        PatentPool pool = new PatentPool();
        for (int length = 20; length <= 700; length += 20) {
            int due = length;
            Check.same("length", due, () -> append(pool));
        }
        Check.same("700 bytes are the most", -1, () -> append(pool));
        Check.same("also once more", -1, () -> pool.append(-1, -1, -1, -1, -1));
        Check.same("nothing was appended", 0, () -> pool.parse(700));
        Check.same("length after parse", 20, () -> append(pool));
    }

    private static void firstBytes() {
        PatentPool pool = new PatentPool();
        Check.put(pool, "member 1;member 2;!!");
        Check.same("the first 9", 0, () -> pool.parse(9));
        Check.same("the first 9: members", 1, () -> pool.size(0));
        Check.put(pool, "member 1;member 2;!!");
        Check.same("the first 18", 0, () -> pool.parse(18));
        Check.same("the first 18: members", 2, () -> pool.size(0));
        Check.put(pool, "member 1;member 2;!!");
        Check.same("the first 19", 1, () -> pool.parse(19));
        Check.put(pool, "member 1;member 2;!!");
        Check.same("the first 0", 0, () -> pool.parse(0));
        Check.same("the first 0: members", 0, () -> pool.size(0));
        Check.put(pool, "member 12345;");
        Check.same("a token is cut", 1, () -> pool.parse(11));
        Check.same("a token is cut: place", 11, pool::errorPosition);
        Check.same("a word is cut", 1, () -> {
            Check.put(pool, "caps");
            return pool.parse(3);
        });
        Check.same("a word is cut: place", 3, pool::errorPosition);
    }

    private static void success() {
        String text = "member 0;version 0 9;patent 0 5;licensee 7;quorum 1 1;";
        Trace.same("a text replaces all of another", () -> Check.pool(text), () -> {
            PatentPool pool = ChangeSentences.situation();
            pool.parse(0);
            Check.parse(pool, text);
            return pool;
        });
        Trace.same("an empty text replaces all", PatentPool::new, () -> {
            PatentPool pool = ChangeSentences.situation();
            pool.parse(0);
            return pool;
        });
    }

    private static void parseError() {
        for (String text : new String[] {"!", "costs 0;cap 5;", "member 0;member 0;member 0;reserve 41;",
            "member 0;version 0 1;licensee 0;weight 7+((((((", "quorum 5 100;late 9 9;penalty 1"}) {
            Trace.same("an error", ChangeSentences::situation, () -> {
                PatentPool pool = ChangeSentences.situation();
                int length = 20 + Check.put(pool, text);
                Check.same("it is an error", true, () -> pool.parse(length) > 0);
                return pool;
            });
        }
        PatentPool pool = new PatentPool();
        Check.put(pool, "!".repeat(40));
        pool.parse(1);
        Check.argument("the buffer is empty after an error", () -> pool.parse(1));
        Check.same("the first bytes after an error", 20, () -> append(pool));
        pool.parse(0);
        Check.argument("the buffer is empty after a success", () -> pool.parse(1));
        Check.same("the first bytes after a success", 20, () -> append(pool));
    }

    private static void lengths() {
        PatentPool pool = new PatentPool();
        Check.same("0 of 0", 0, () -> pool.parse(0));
        for (int length = 0; length <= 40; length++) {
            append(pool);
            append(pool);
            int one = length;
            Check.same(one + " of 40", 0, () -> pool.parse(one));
        }
        for (int time = 0; time < 35; time++) {
            append(pool);
        }
        Check.same("700 of 700", 0, () -> pool.parse(700));
    }

    private static void codes() {
        Check.error("member 0;", 0, -1);
        Check.error("member", 1, 6);
        Check.error("cap 1;cap 1;", 2, 6);
        Check.error("cap 0;", 3, 4);
        Check.error("version 0 1;".repeat(5), 4, 48);
    }

    private static void wrongLengths() {
        PatentPool pool = new PatentPool();
        Check.argument("1 of 0", () -> pool.parse(1));
        Check.argument("-1 of 0", () -> pool.parse(-1));
        append(pool);
        for (int length : new int[] {-1, 21, 700, 701, Integer.MIN_VALUE, Integer.MAX_VALUE}) {
            Check.argument(length + " of 20", () -> pool.parse(length));
            Trace.refused(OUT_OF_RANGE, ChangeSentences::situation, one -> one.parse(length));
        }
        Check.same("the buffer is as it was", 40, () -> append(pool));
    }

    private static void lastPosition() {
        PatentPool pool = new PatentPool();
        Check.parse(pool, "cap 0;");
        Check.same("an error", 4, pool::errorPosition);
        Check.argument("an exception", () -> pool.parse(1));
        Check.same("an exception leaves it", 4, pool::errorPosition);
        Check.parse(pool, "!");
        Check.same("a later error", 0, pool::errorPosition);
        pool.advance(1);
        pool.undo();
        append(pool);
        Check.same("other calls leave it", 0, pool::errorPosition);
        pool.parse(0);
        Check.parse(pool, " ".repeat(680) + "weight (");
        Check.same("the end of a text", 688, pool::errorPosition);
    }

    private static void noPosition() {
        PatentPool pool = new PatentPool();
        Check.same("there was no call", -1, pool::errorPosition);
        Check.argument("an exception", () -> pool.parse(-1));
        Check.same("there was none without an exception", -1, pool::errorPosition);
        Check.parse(pool, "!");
        Check.parse(pool, "cap 5;");
        Check.same("a success", -1, pool::errorPosition);
        Check.parse(pool, "!");
        pool.parse(0);
        Check.same("an empty text", -1, pool::errorPosition);
        Check.argument("an exception after a success", () -> pool.parse(1));
        Check.same("a success before an exception", -1, pool::errorPosition);
    }

    private static void laterOnes() {
        PatentPool pool = Check.pool("member 9;member 9;version 0 1;version 9 1;version 9 1;patent 0 1;licensee 1;"
                + "licensee 2;licensee 3;licensee 4;");
        Check.same("members", 2, () -> pool.size(0));
        Check.same("versions", 3, () -> pool.size(1));
        Check.same("patents", 1, () -> pool.size(2));
        Check.same("licensees", 4, () -> pool.size(3));
        pool.join();
        Check.same("members later", 3, () -> pool.size(0));
        pool.declare(2, 5);
        pool.declare(0, 5);
        Check.same("patents later", 3, () -> pool.size(2));
        pool.advance(9);
        Check.same("patents that are not in force are included", 3, () -> pool.size(2));
        pool.undo();
        pool.undo();
        Check.same("patents after undo", 2, () -> pool.size(2));
    }

    private static void wrongSizes() {
        for (int what : new int[] {-1, 4, 5, Integer.MIN_VALUE, Integer.MAX_VALUE}) {
            Trace.refused(OUT_OF_RANGE, ChangeSentences::situation, pool -> pool.size(what));
        }
        Check.same("3 is in range", 0, () -> new PatentPool().size(3));
    }

    private static void presentDay() {
        PatentPool pool = new PatentPool();
        Check.same("day 0", 0, pool::today);
        pool.advance(1);
        pool.advance(9998);
        Check.same("the last day", 9999, pool::today);
        pool.undo();
        Check.same("undone", 1, pool::today);
    }

    private static void presentPeriod() {
        PatentPool pool = Check.pool("licensee 0;version 0 1;");
        Check.same("period 0", 0, pool::period);
        pool.report(0, 0, 5);
        for (int period = 1; period <= 5; period++) {
            pool.pay(0, 1);
            pool.close();
            int due = period;
            Check.same("period", due, pool::period);
        }
        pool.undo();
        Check.same("undone", 4, pool::period);
        pool.undo();
        Check.state("a close is refused", pool::close);
        Check.same("a refused close begins no period", 4, pool::period);
    }
}
