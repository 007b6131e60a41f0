import java.util.ArrayList;
import java.util.List;

/** Promises 1 to 7: a new object, the input buffer, pool texts, sizes, day and period. */
public final class PoolTextTest {
    private static final String[] ONCE = {"quorum 1 1", "cap 1", "costs 0", "reserve 0", "late 0 0",
        "credit 0 0", "penalty 0", "weight 1"};

    public static void main(String[] args) {
        promise1NewObject();
        promise2Append();
        promise3Lengths();
        promise3BytesCount();
        promise3ErrorChangesNothing();
        promise3SuccessReplaces();
        promise3Ranges();
        promise3Defaults();
        promise3Tokens();
        promise3Grammar();
        promise3Limits();
        promise3Seconds();
        promise3SmallestPosition();
        promise4ErrorPosition();
        promise5Size();
        promise6And7();
        Check.end();
    }

    private static void promise1NewObject() {
        PatentPool pool = new PatentPool();
        for (int what = 0; what < 4; what++) {
            int kind = what;
            Check.same("new: size " + kind, 0, () -> pool.size(kind));
        }
        for (int what = 0; what < 5; what++) {
            int kind = what;
            Check.same("new: total " + kind, 0, () -> pool.total(kind));
        }
        Check.same("new: today", 0, pool::today);
        Check.same("new: period", 0, pool::period);
        Check.same("new: errorPosition", -1, pool::errorPosition);
        Check.same("new: undo", -1, pool::undo);
        Check.state("new: slot 0", () -> pool.restoreSnapshot(0));
        Check.state("new: slot 1", () -> pool.restoreSnapshot(1));
        Check.argument("new: the buffer is empty", () -> pool.parse(1));
        Check.same("new: join", 0, pool::join);
        Check.same("new: the formula is patents", 0, () -> pool.weight(0));
        Check.same("NONE", -1, () -> PatentPool.NONE);
    }

    private static void promise2Append() {
        PatentPool pool = new PatentPool();
        for (int times = 1; times <= 35; times++) {
            int length = times * 20;
            Check.same("append", length, () -> pool.append(0x20202020, 0x20202020, 0x20202020,
                    0x20202020, 0x20202020));
        }
        Check.same("append to a full buffer", -1, () -> pool.append(0, 0, 0, 0, 0));
        Check.same("append to a full buffer again", -1, () -> pool.append(0, 0, 0, 0, 0));
        Check.argument("701 bytes", () -> pool.parse(701));
        Check.same("700 spaces", 0, () -> pool.parse(700));
        Check.same("append after parse", 20, () -> pool.append(0, 0, 0, 0, 0));
        Check.same("append what was parsed first", 1, () -> pool.parse(20));
        Check.same("append a whole text", 0, () -> Check.parse(pool, "member 12;member 34;"));
        Check.same("append a whole text: members", 2, () -> pool.size(0));
        PatentPool order = new PatentPool();
        order.append('m' << 24 | 'e' << 16 | 'm' << 8 | 'b', 'e' << 24 | 'r' << 16 | ' ' << 8 | '7',
                ';' << 24 | 0x202020, 0xFF202020, 0x202020FF);
        Check.same("bytes in order", 0, () -> order.parse(12));
        Check.same("bytes in order: members", 1, () -> order.size(0));
    }

    private static void promise3Lengths() {
        PatentPool pool = new PatentPool();
        Check.argument("parse(-1)", () -> pool.parse(-1));
        Check.argument("parse(1) of nothing", () -> pool.parse(1));
        Check.argument("parse of a smallest int", () -> pool.parse(Integer.MIN_VALUE));
        Check.argument("parse of a largest int", () -> pool.parse(Integer.MAX_VALUE));
        Check.same("parse(0) of nothing", 0, () -> pool.parse(0));
        Check.put(pool, "member 1; member 2;");
        Check.argument("parse(21)", () -> pool.parse(21));
        Check.argument("parse(-1) keeps the buffer", () -> pool.parse(-1));
        Check.same("parse of a part", 0, () -> pool.parse(9));
        Check.same("parse of a part: members", 1, () -> pool.size(0));
        Check.argument("all of the buffer is gone", () -> pool.parse(1));
        Check.put(pool, "x");
        Check.same("an error", 1, () -> pool.parse(1));
        Check.argument("all of the buffer is gone after an error", () -> pool.parse(1));
        Check.put(pool, "cap 500;");
        Check.same("a number that the length cuts", 1, () -> pool.parse(5));
        Check.same("a number that the length cuts: place", 5, pool::errorPosition);
        Check.put(pool, "caps");
        Check.same("a word that the length cuts", 1, () -> pool.parse(3));
        Check.same("a word that the length cuts: place", 3, pool::errorPosition);
    }

    private static void promise3BytesCount() {
        for (int b = 0; b < 256; b++) {
            boolean blank = b == ' ' || b == '\n';
            PatentPool pool = new PatentPool();
            int value = b;
            String text = "cap 5;" + (char) value;
            Check.same("byte " + value, blank ? 0 : 1, () -> Check.parse(pool, text));
            Check.same("byte " + value + ": place", blank ? -1 : 6, pool::errorPosition);
            boolean allowed = blank || b >= '0' && b <= '9';
            Check.same("byte " + value + " in a number", allowed ? 0 : 1,
                    () -> Check.parse(pool, "member 5" + (char) value + ";"));
        }
    }

    private static void promise3ErrorChangesNothing() {
        PatentPool pool = Check.pool("member 0; version 0 10; patent 0 50; licensee 0; quorum 1 1;");
        pool.vote(0, 0, 0, true);
        pool.saveSnapshot(1);
        pool.report(0, 0, 3);
        Check.same("an error", 4, () -> Check.parse(pool, "cap 7; weight ((((((1));"));
        Check.same("an error keeps sizes", 1, () -> pool.size(2));
        Check.same("an error keeps amounts", 30, () -> pool.owed(0));
        Check.same("an error keeps terms", 1000, () -> pool.shareOf(0, 1000));
        Check.same("an error keeps the formula", 1, () -> pool.weight(0));
        Check.same("an error keeps the history", 1, pool::undo);
        Check.same("an error keeps the slots", 0, () -> pool.restoreSnapshot(1));
        Check.argument("a wrong length", () -> pool.parse(5));
        Check.same("a wrong length keeps sizes", 1, () -> pool.size(2));
    }

    private static void promise3SuccessReplaces() {
        PatentPool pool = Check.pool("member 0; version 0 10; patent 0 50; licensee 0; quorum 1 1;"
                + "cap 40; costs 50; reserve 40; late 100 10; credit 1 1; penalty 400; weight days + 90;");
        pool.vote(0, 0, 0, true);
        pool.report(0, 0, 100);
        pool.pay(0, 100);
        pool.close();
        pool.payOut(0);
        pool.report(0, 0, 7);
        pool.grantBack(0);
        pool.advance(5);
        pool.saveSnapshot(0);
        pool.saveSnapshot(1);
        Check.same("a second text", 0, () -> Check.parse(pool,
                "member 0; version 0 10; patent 0 50; licensee 0;"));
        for (int what = 0; what < 4; what++) {
            int kind = what;
            Check.same("size again " + kind, 1, () -> pool.size(kind));
        }
        Check.same("day again", 0, pool::today);
        Check.same("period again", 0, pool::period);
        Check.same("history again", -1, pool::undo);
        Check.state("slot 0 again", () -> pool.restoreSnapshot(0));
        Check.state("slot 1 again", () -> pool.restoreSnapshot(1));
        Check.same("votes again", 0, () -> pool.voters(0, 0, true));
        Check.same("quorum again", 3, () -> pool.votesNeeded(0, 0));
        Check.same("debts again", 0, () -> pool.owed(0));
        Check.same("units again", 0, () -> pool.reported(0, 0));
        Check.same("accounts again", 0, () -> pool.account(0));
        Check.same("shares again", 0, () -> pool.latestShare(0));
        for (int what = 0; what < 5; what++) {
            int kind = what;
            Check.same("total again " + kind, 0, () -> pool.total(kind));
        }
        Check.votes(pool, 0, 0, 3, 0);
        Check.same("formula and late again", 1, () -> pool.weight(0));
        Check.same("cap again", 10, () -> pool.shareOf(0, 10));
        pool.report(0, 0, 1000);
        Check.same("credit again", 1000, () -> pool.grantBack(0));
        Check.same("penalty again", 150, () -> pool.audit(0, 0, 1010));
        pool.pay(0, 1000);
        Check.same("costs and reserve again", 850, pool::close);
        Check.same("costs again", 100, () -> pool.total(1));
        Check.same("reserve again", 50, () -> pool.total(2));
    }

    private static void promise3Ranges() {
        range("member ", 0, 9999, "");
        range("version ", 0, 9999, " 1");
        range("version 0 ", 1, 9999, "");
        range("patent ", 0, 1, " 1");
        range("patent 0 ", 1, 9999, "");
        range("licensee ", 0, 100, "");
        range("quorum ", 1, 5, " 1");
        range("quorum 1 ", 1, 100, "");
        range("cap ", 1, 100, "");
        range("costs ", 0, 50, "");
        range("reserve ", 0, 40, "");
        range("late ", 0, 9999, " 0");
        range("late 0 ", 0, 100, "");
        range("credit ", 0, 9999, " 0");
        range("credit 0 ", 0, 100, "");
        range("penalty ", 0, 400, "");
        range("weight ", 0, 9999, "");
        Check.error("patent 0 5;", 3, 7);
        Check.error("member 1; patent 1 5; member 2;", 3, 17);
        Check.error("version 0 0;", 3, 10);
        Check.error("quorum 6 0;", 3, 7);
        Check.error("quorum 5 0;", 3, 9);
    }

    /** Tries a number at and beyond both ends of its range, behind two members. */
    private static void range(String before, int low, int high, String after) {
        String head = "member 0; member 0; " + before;
        List<Integer> numbers = new ArrayList<>(List.of(0, 1, low, low + 1, high - 1, high, 9999));
        if (high < 9999) {
            numbers.add(high + 1);
        }
        for (int number : numbers) {
            String text = head + number + after + ";";
            if (number >= low && number <= high) {
                Check.error(text, 0, -1);
            } else {
                Check.error(text, 3, head.length());
            }
        }
        Check.error(head + "10000" + after + ";", 1, head.length());
        Check.error(head + "00000" + after + ";", 1, head.length());
        Check.error(head + (low < 10 ? "000" + low : low) + after + ";", 0, -1);
        Check.error(head, 1, head.length());
        Check.error(head + "-1" + after + ";", 1, head.length());
        Check.error(head + "cap" + after + ";", 1, head.length());
        Check.error(head + ";", 1, head.length());
    }

    private static void promise3Defaults() {
        PatentPool pool = Check.pool("member 0;member 0;version 0 100;patent 0 9;patent 0 9;licensee 0;");
        Check.votes(pool, 0, 0, 1, 0);
        Check.same("quorum: 3 votes", 2, () -> pool.votesNeeded(0, 0));
        Check.same("quorum: 2 votes", 0, () -> pool.vote(1, 0, 0, true));
        Check.same("quorum: 3 votes, 2 yes", 1, () -> pool.vote(2, 0, 0, false));
        Check.same("quorum: 4 votes, 2 yes", 1, () -> pool.vote(3, 0, 0, false));
        Check.same("quorum: 5 votes, 2 yes", 2, () -> pool.vote(4, 0, 0, false));
        pool.undo();
        Check.votes(pool, 1, 0, 3, 0);
        Check.same("weight patents", 2, () -> pool.weight(0));
        Check.same("cap 100", 77, () -> pool.shareOf(0, 77));
        pool.report(0, 0, 49);
        Check.same("credit 20 percent", 980, () -> pool.grantBack(0));
        pool.undo();
        pool.report(0, 0, 2);
        Check.same("credit 1000", 1000, () -> pool.grantBack(0));
        Check.same("penalty 50", 150, () -> pool.audit(0, 0, 52));
        pool.pay(0, 199);
        Check.same("close", 171, pool::close);
        Check.same("costs 10", 19, () -> pool.total(1));
        Check.same("reserve 5", 9, () -> pool.total(2));
    }

    private static void promise3Tokens() {
        Check.error("", 0, -1);
        Check.error(" \n \n", 0, -1);
        Check.error("cap5;costs5;", 0, -1);
        Check.error("cap\n5\n;\n", 0, -1);
        Check.error("weight2*patents/pairs-days+(3);", 0, -1);
        Check.error("weight 2patents;", 1, 8);
        Check.error("weight patents2;", 1, 14);
        Check.error("licenseea 5;", 1, 0);
        Check.error("licensee 5;", 0, -1);
        Check.error("licensees 5;", 1, 0);
        Check.error("abcdefghijkl", 1, 0);
        Check.error(" Cap 5;", 1, 1);
        Check.error("cap 5;\t", 1, 6);
        Check.error("cap 5.", 1, 5);
        Check.error("cap 12345;", 1, 4);
        Check.error("cap 99999", 1, 4);
        Check.error("cap 5,;", 1, 5);
        Check.error("cap 5:", 1, 5);
        Check.error("memb er 5;", 1, 0);
        Check.error("bap 5;", 1, 0);
        Check.error("cup 5;", 1, 0);
        Check.error("caq 5;", 1, 0);
        Check.error("member 1 2;", 1, 9);
        Check.error("weight days_;", 1, 11);
        Check.error("cap 5" + (char) 233 + ";", 1, 5);
        Check.error("cap 5" + (char) 0 + ";", 1, 5);
    }

    private static void promise3Grammar() {
        Check.error(";", 1, 0);
        Check.error("cap 5;;", 1, 6);
        Check.error("cap 5", 1, 5);
        Check.error("cap 5  ", 1, 7);
        Check.error("cap", 1, 3);
        Check.error("cap 5 cap 5;", 1, 6);
        Check.error("5;", 1, 0);
        Check.error("patents 0 5;", 1, 0);
        Check.error("days;", 1, 0);
        Check.error("quorum 3;", 1, 8);
        Check.error("quorum 3 50 2;", 1, 12);
        Check.error("member 5; licensee;", 1, 18);
        Check.error("weight;", 1, 6);
        Check.error("weight ", 1, 7);
        Check.error("weight patent;", 1, 7);
        Check.error("weight member;", 1, 7);
        Check.error("weight -1;", 1, 7);
        Check.error("weight 1 1;", 1, 9);
        Check.error("weight 1 +;", 1, 10);
        Check.error("weight 1 + + 1;", 1, 11);
        Check.error("weight 1 * ;", 1, 11);
        Check.error("weight ();", 1, 8);
        Check.error("weight (1;", 1, 9);
        Check.error("weight (1", 1, 9);
        Check.error("weight 1);", 1, 8);
        Check.error("weight (1) 2;", 1, 11);
        Check.error("weight (1)(2);", 1, 10);
        Check.error("weight ((1)+(2))*((3)-(4))/(5);", 0, -1);
        Check.error("weight (((((days)))))+((((pairs))));", 0, -1);
        Check.error("weight (1+2*3-4/5+patents*pairs/days;", 1, 36);
    }

    private static void promise3Limits() {
        limit("member 1;", 8);
        limit("version 1 1;", 4);
        limit("licensee 1;", 6);
        String patents = "member 0;";
        for (int patent = 0; patent < 16; patent++) {
            patents += "patent 0 5;";
        }
        Check.error(patents, 0, -1);
        Check.error(patents + "patent", 4, patents.length());
        Check.error(patents + "patent 9 0;", 4, patents.length());
        Check.error("weight (((((1)))));", 0, -1);
        Check.error("weight ((((((1))))));", 4, 12);
        Check.error("weight ( ( ( ( ( (", 4, 17);
        Check.error("weight (((((1(", 1, 13);
        Check.error("weight (((((1)+((", 4, 16);
        Check.error("weight (((((1))+(((", 4, 18);
        Check.error("weight (((((1))+((", 1, 18);
        Check.error("weight 1 (", 1, 9);
    }

    private static void limit(String statement, int most) {
        String text = "";
        for (int number = 0; number < most; number++) {
            text += statement;
        }
        Check.error(text, 0, -1);
        Check.error(text + " " + statement, 4, text.length() + 1);
        Check.error(text + statement.substring(0, statement.indexOf(' ')), 4, text.length());
    }

    private static void promise3Seconds() {
        for (String first : ONCE) {
            for (String other : ONCE) {
                String text = first + "; " + other + ";";
                if (first.equals(other)) {
                    Check.error(text, 2, first.length() + 2);
                    Check.error(first + ";" + first.substring(0, first.indexOf(' ')), 2,
                            first.length() + 1);
                } else {
                    Check.error(text, 0, -1);
                }
            }
        }
    }

    private static void promise3SmallestPosition() {
        Check.error("cap 0 !", 3, 4);
        Check.error("cap 0", 3, 4);
        Check.error("! cap 0;", 1, 0);
        Check.error("cap 5; cap 0; !", 2, 7);
        Check.error("cap 5; costs 51; cap 5;", 3, 13);
        Check.error("weight ((((((1)))))); cap 0;", 4, 12);
        Check.error("version 99999 0;", 1, 8);
    }

    private static void promise4ErrorPosition() {
        PatentPool pool = new PatentPool();
        Check.parse(pool, "cap 0;");
        Check.same("after an error", 4, pool::errorPosition);
        Check.argument("an exception", () -> pool.parse(1));
        Check.same("after an exception", 4, pool::errorPosition);
        pool.advance(1);
        pool.undo();
        Check.same("after changes", 4, pool::errorPosition);
        Check.parse(pool, "cap 5");
        Check.same("after another error", 5, pool::errorPosition);
        Check.parse(pool, "cap 5;");
        Check.same("after a success", -1, pool::errorPosition);
        String spaces = " ".repeat(699);
        Check.parse(pool, spaces + "!");
        Check.same("the last place", 699, pool::errorPosition);
        Check.parse(pool, spaces.substring(3) + "cap ");
        Check.same("the end of a full buffer", 700, pool::errorPosition);
    }

    private static void promise5Size() {
        PatentPool pool = Check.pool("member 9; member 9; member 9; version 0 1; version 9 1;"
                + "patent 0 1; licensee 1; licensee 2; licensee 3; licensee 4;");
        Check.same("members", 3, () -> pool.size(0));
        Check.same("versions", 2, () -> pool.size(1));
        Check.same("patents", 1, () -> pool.size(2));
        Check.same("licensees", 4, () -> pool.size(3));
        Check.argument("size(-1)", () -> pool.size(-1));
        Check.argument("size(4)", () -> pool.size(4));
        Check.argument("size of a smallest int", () -> pool.size(Integer.MIN_VALUE));
        pool.join();
        pool.declare(3, 5);
        pool.declare(0, 5);
        Check.same("members later", 4, () -> pool.size(0));
        Check.same("patents later", 3, () -> pool.size(2));
    }

    private static void promise6And7() {
        PatentPool pool = Check.pool("licensee 0; version 0 1;");
        pool.advance(7);
        pool.advance(2);
        Check.same("today", 9, pool::today);
        pool.report(0, 0, 5);
        pool.pay(0, 1);
        pool.close();
        Check.same("period", 1, pool::period);
        pool.pay(0, 1);
        pool.close();
        Check.same("period again", 2, pool::period);
        Check.same("today again", 9, pool::today);
    }
}
