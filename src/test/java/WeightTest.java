/** Promises 13 to 17: weights, weights in the future, shares, majorities, power. */
public final class WeightTest {
    public static void main(String[] args) {
        promise13Operands();
        promise13Formulas();
        promise13Zero();
        promise13LongFormula();
        promise13Late();
        promise14WeightAfter();
        promise15Shares();
        promise15Caps();
        promise15EightRounds();
        promise15EightRemainders();
        promise15Wrong();
        promise16SmallestMajority();
        promise17Power();
        Check.end();
    }

    private static void promise13Operands() {
        String head = "member 0; member 7; version 0 1; version 0 1; version 9 1; patent 0 20; patent 0 5;"
                + "patent 1 20; patent 0 30; quorum 1 50; weight ";
        PatentPool patents = Check.pool(head + "patents;");
        PatentPool pairs = Check.pool(head + "pairs;");
        PatentPool days = Check.pool(head + "days;");
        for (PatentPool pool : new PatentPool[] {patents, pairs, days}) {
            pool.vote(0, 0, 0, true);
            pool.vote(0, 0, 1, true);
            pool.vote(0, 1, 1, true);
            pool.vote(0, 2, 0, true);
            pool.vote(0, 3, 0, false);
        }
        both("day 0", patents, pairs, days, 0, 2, 3, 0);
        both("not joined", patents, pairs, days, 1, 0, 0, 0);
        for (PatentPool pool : new PatentPool[] {patents, pairs, days}) {
            pool.advance(5);
        }
        both("day 5", patents, pairs, days, 0, 1, 2, 5);
        for (PatentPool pool : new PatentPool[] {patents, pairs, days}) {
            pool.advance(4);
            pool.vote(1, 0, 2, true);
        }
        both("day 9", patents, pairs, days, 0, 1, 3, 9);
        both("day 9 of a later member", patents, pairs, days, 1, 1, 1, 2);
        for (PatentPool pool : new PatentPool[] {patents, pairs, days}) {
            pool.join();
        }
        both("a new member", patents, pairs, days, 2, 0, 0, 0);
        Check.index("no such member", () -> days.weight(3));
        Check.index("below all members", () -> days.weight(-1));
    }

    private static void both(String what, PatentPool patents, PatentPool pairs, PatentPool days,
            int member, int first, int second, int third) {
        Check.same(what + ": patents", first, () -> patents.weight(member));
        Check.same(what + ": pairs", second, () -> pairs.weight(member));
        Check.same(what + ": days", third, () -> days.weight(member));
    }

    private static void formula(String sum, int due) {
        PatentPool pool = Check.pool("member 0; weight " + sum + ";");
        pool.advance(3);
        Check.same("weight " + sum, due, () -> pool.weight(0));
    }

    private static void promise13Formulas() {
        formula("7", 7);
        formula("2+3*4", 14);
        formula("(2+3)*4", 20);
        formula("20-5-4", 11);
        formula("20-(5-4)", 19);
        formula("100/7/2", 7);
        formula("100/(7/2)", 33);
        formula("100/7*2", 28);
        formula("7*100/8", 87);
        formula("3-5", 0);
        formula("10+(3-10)/2", 7);
        formula("10+(0-7)/2", 7);
        formula("10+7/(0-2)", 7);
        formula("5/0", 0);
        formula("5+5/0", 5);
        formula("5+5/(days-3)*9", 5);
        formula("5/patents", 0);
        formula("0/0+1", 1);
        formula("days*days", 9);
        formula("9999*9999", 1000000);
        formula("1000*1000", 1000000);
        formula("1000*1000-1", 999999);
        formula("1000*1000+1", 1000000);
        formula("9999*9999*43", overflowed(9999 * 9999 * 43));
        formula("9999*9999*9999", overflowed(9999 * 9999 * 9999));
        formula("9999*9999*9999/9999", overflowed(9999 * 9999 * 9999 / 9999));
        formula("9999*9999*9999*9999/1000", overflowed(9999 * 9999 * 9999 * 9999 / 1000));
        formula("(2048*2048*512)/(0-1)", 0);
        formula("(2048*2048*512)/(0-1)/(0-4096)", 524288);
        formula("(2048*2048*512-1)/4096", 524287);
        formula("0-2048*2048*512-1-2048*2048*512+9", 8);
        formula("((((1+2)*3-4)*5-6)*7-8)/9", 13);
        formula("1+2*(3+4*(5+6*(7+8*(9+days*2))))", 1 + 2 * (3 + 4 * (5 + 6 * (7 + 8 * (9 + 3 * 2)))));
    }

    private static int overflowed(int value) {
        return Math.max(0, Math.min(1000000, value));
    }

    private static void promise13Zero() {
        PatentPool pool = weighted("weight 0;", 2);
        Check.same("a number 0 is no operand", 0, () -> pool.weight(0));
    }

    private static void promise13LongFormula() {
        String sum = "1" + "+1".repeat(340);
        PatentPool pool = Check.pool("member 0;weight " + sum + ";");
        Check.same("a long sum", 341, () -> pool.weight(0));
        String product = "2*3*4" + "/1*1".repeat(160);
        PatentPool other = Check.pool("member 0;weight " + product + ";");
        Check.same("a long product", 24, () -> other.weight(0));
    }

    private static void promise13Late() {
        PatentPool pool = Check.pool("member 0; member 10; late 5 33; weight 10 + days;");
        Check.same("day 0", 3, () -> pool.weight(0));
        pool.advance(4);
        Check.same("day 4", 4, () -> pool.weight(0));
        pool.advance(1);
        Check.same("day 5", 15, () -> pool.weight(0));
        Check.same("not joined", 0, () -> pool.weight(1));
        pool.advance(5);
        Check.same("the first day", 3, () -> pool.weight(1));
        PatentPool most = Check.pool("member 0; late 1 100; weight 9999*9999;");
        Check.same("limited before it is reduced", 1000000, () -> most.weight(0));
        PatentPool half = Check.pool("member 0; late 1 50; weight 9999*9999;");
        Check.same("limited, then halved", 500000, () -> half.weight(0));
        PatentPool none = Check.pool("member 0; late 9999 0; weight 9;");
        Check.same("nothing for late ones", 0, () -> none.weight(0));
        none.advance(9998);
        Check.same("still late", 0, () -> none.weight(0));
        none.advance(1);
        Check.same("late no more", 9, () -> none.weight(0));
    }

    private static void promise14WeightAfter() {
        PatentPool pool = Check.pool("member 0; member 10; version 0 1; version 4 1; patent 0 6; patent 1 12;"
                + "quorum 1 50; late 3 50; weight pairs * 100 + days;");
        pool.vote(0, 0, 0, true);
        pool.vote(0, 1, 0, true);
        int[] first = {50, 50, 51, 103, 104, 105, 6, 7};
        for (int days = 0; days < first.length; days++) {
            int later = days;
            Check.same("weightAfter " + later, first[later], () -> pool.weightAfter(0, later));
        }
        Check.same("before joining", 0, () -> pool.weightAfter(1, 9));
        Check.same("on joining", 50, () -> pool.weightAfter(1, 10));
        Check.same("the last day in force", 50, () -> pool.weightAfter(1, 11));
        Check.same("the day of expiry", 1, () -> pool.weightAfter(1, 12));
        PatentPool fixed = Check.pool("member 10; weight 5;");
        Check.same("a day before joining", 0, () -> fixed.weightAfter(0, 9));
        Check.same("the day of joining", 5, () -> fixed.weightAfter(0, 10));
        pool.advance(4);
        pool.vote(0, 0, 1, true);
        Check.same("a second version", 204, () -> pool.weightAfter(0, 0));
        Check.same("nothing else has changed", 4, pool::today);
        pool.advance(9995);
        Check.same("beyond the last day", 19998, () -> pool.weightAfter(0, 9999));
        Check.argument("too many days", () -> pool.weightAfter(0, 10000));
        Check.argument("too few days", () -> pool.weightAfter(0, -1));
        Check.argument("far too many days", () -> pool.weightAfter(0, Integer.MAX_VALUE));
        Check.index("no such member", () -> pool.weightAfter(2, 0));
        Check.index("no such member is checked first", () -> pool.weightAfter(2, -1));
        Check.index("below all members", () -> pool.weightAfter(-1, 10000));
    }

    /** A pool in which the weights of members are as given, by patents that count. */
    private static PatentPool weighted(String more, int... weights) {
        StringBuilder text = new StringBuilder("version 0 100;licensee 0;quorum 1 1;" + more);
        for (int member = 0; member < weights.length; member++) {
            text.append("member 0;");
            for (int patent = 0; patent < weights[member]; patent++) {
                text.append("patent ").append(member).append(" 9999;");
            }
        }
        PatentPool pool = Check.pool(text.toString());
        for (int patent = 0; patent < pool.size(2); patent++) {
            pool.vote(0, patent, 0, true);
        }
        return pool;
    }

    private static void shares(PatentPool pool, int amount, int... due) {
        for (int member = 0; member < due.length; member++) {
            int one = member;
            Check.same("share of " + one + " in " + amount, due[one], () -> pool.shareOf(one, amount));
        }
    }

    private static void promise15Shares() {
        PatentPool pool = weighted("", 1, 2, 3);
        shares(pool, 600, 100, 200, 300);
        shares(pool, 0, 0, 0, 0);
        shares(pool, 1, 0, 0, 1);
        shares(pool, 2, 0, 1, 1);
        shares(pool, 3, 1, 1, 1);
        shares(pool, 4, 1, 1, 2);
        shares(pool, 5, 1, 2, 2);
        shares(pool, 1000000000, 166666667, 333333333, 500000000);
        shares(weighted("", 1, 0, 1, 1), 2, 1, 0, 1, 0);
        shares(weighted("", 1, 1, 1), 100, 34, 33, 33);
        shares(weighted("", 0, 0), 100, 0, 0);
        shares(weighted("", 0, 5), 100, 0, 100);
        shares(weighted("", 3, 7, 1), 1, 0, 1, 0);
        shares(weighted("", 2, 2, 3, 1), 5, 1, 1, 2, 1);
        PatentPool large = Check.pool("member 0; member 0; weight 9999*9999;");
        shares(large, 1000000000, 500000000, 500000000);
        shares(large, 999999999, 500000000, 499999999);
    }

    private static void promise15Caps() {
        shares(weighted("cap 40;", 1, 2, 7), 100, 20, 40, 40);
        shares(weighted("cap 40;", 1, 9), 100, 40, 40);
        shares(weighted("cap 50;", 1, 2, 7), 100, 17, 33, 50);
        shares(weighted("cap 50;", 1, 1), 101, 50, 50);
        shares(weighted("cap 34;", 1, 1, 1), 100, 34, 33, 33);
        shares(weighted("cap 33;", 1, 1, 1), 100, 33, 33, 33);
        shares(weighted("cap 1;", 1, 1), 99, 0, 0);
        shares(weighted("cap 1;", 1, 1), 100, 1, 1);
        shares(weighted("cap 50;", 1, 1), 1, 0, 0);
        shares(weighted("cap 60;", 5), 1000, 600);
        shares(weighted("cap 30;", 1, 1, 4, 8), 1000, 200, 200, 300, 300);
        shares(weighted("cap 35;", 1, 3, 4, 8), 1000, 81, 244, 325, 350);
        shares(weighted("cap 40;", 2, 2, 3), 10, 3, 3, 4);
        shares(weighted("cap 25;", 1, 1, 1, 1), 7, 1, 1, 1, 1);
        shares(weighted("cap 30;", 1, 1, 1, 2), 7, 2, 2, 1, 2);
        shares(weighted("cap 100;", 1, 1), 1000000000, 500000000, 500000000);
        shares(weighted("cap 50;", 1, 4, 7), 4, 1, 1, 2);
    }

    private static void promise15EightRounds() {
        PatentPool pool = Check.pool("member 0; member 427; member 579; member 636; member 658; member 667;"
                + "member 671; member 673; cap 12; weight days * days;");
        pool.advance(683);
        shares(pool, 10000, 1200, 1200, 1200, 1200, 1200, 1200, 1200, 1200);
    }

    private static void promise15EightRemainders() {
        PatentPool pool = Check.pool("member 0; member 24; member 24; member 24; member 24; member 24;"
                + "member 24; member 24; cap 35; weight days;");
        pool.advance(31);
        shares(pool, 10, 3, 1, 1, 1, 1, 1, 1, 1);
    }

    private static void promise15Wrong() {
        PatentPool pool = weighted("", 1);
        Check.argument("a negative amount", () -> pool.shareOf(0, -1));
        Check.argument("a large amount", () -> pool.shareOf(0, 1000000001));
        Check.index("no such member", () -> pool.shareOf(1, 5));
        Check.index("no such member is checked first", () -> pool.shareOf(-1, -1));
        Check.same("shareOf changes nothing", 0, () -> pool.account(0));
        Check.same("shareOf is no change", 0, pool::undo);
    }

    private static void promise16SmallestMajority() {
        Check.same("the first of three", 1, () -> weighted("", 4, 2, 1).smallestMajority());
        Check.same("the last of three", 4, () -> weighted("", 1, 2, 4).smallestMajority());
        Check.same("two of three", 3, () -> weighted("", 2, 2, 2).smallestMajority());
        Check.same("half is not enough", 3, () -> weighted("", 3, 1, 2).smallestMajority());
        Check.same("exactly half", 3, () -> weighted("", 4, 2, 2).smallestMajority());
        Check.same("exactly half, last", 5, () -> weighted("", 2, 2, 4).smallestMajority());
        Check.same("fewer members beat lower sets", 8, () -> weighted("", 1, 1, 1, 5).smallestMajority());
        Check.same("two large ones", 20, () -> weighted("", 1, 1, 4, 1, 4).smallestMajority());
        Check.same("weights of 0", 2, () -> weighted("", 0, 1, 0).smallestMajority());
        Check.same("all are 0", -1, () -> weighted("", 0, 0).smallestMajority());
        Check.same("no members", -1, () -> new PatentPool().smallestMajority());
        Check.same("eight members", 31, () -> weighted("", 2, 2, 2, 2, 2, 2, 2, 2).smallestMajority());
        Check.same("eight members, most of one", 128,
                () -> weighted("", 1, 1, 1, 1, 1, 1, 1, 8).smallestMajority());
        PatentPool large = Check.pool("member 0;member 0;member 0;member 0;member 0;member 0;member 0;"
                + "member 0;weight 9999*9999;");
        Check.same("largest weights", 31, large::smallestMajority);
    }

    private static void powers(PatentPool pool, int... due) {
        for (int member = 0; member < due.length; member++) {
            int one = member;
            Check.same("power of " + one, due[one], () -> pool.power(one));
        }
    }

    private static void promise17Power() {
        powers(weighted("", 1), 1);
        powers(weighted("", 0), 0);
        powers(weighted("", 0, 0, 0), 0, 0, 0);
        powers(weighted("", 1, 1, 1), 2, 2, 2);
        powers(weighted("", 3, 1, 1), 4, 0, 0);
        powers(weighted("", 2, 1, 1), 3, 1, 1);
        powers(weighted("", 1, 0, 0), 4, 0, 0);
        powers(weighted("", 4, 3, 2, 1), 5, 3, 3, 1);
        powers(weighted("", 9, 1, 1, 1, 1, 1, 1, 1), 128, 0, 0, 0, 0, 0, 0, 0);
        powers(weighted("", 2, 2, 2, 2, 2, 2, 2, 2), 35, 35, 35, 35, 35, 35, 35, 35);
        PatentPool pool = weighted("", 1);
        Check.index("no such member", () -> pool.power(1));
        Check.index("below all members", () -> pool.power(-1));
        Check.index("a large number", () -> pool.power(32));
        pool.join();
        powers(pool, 2, 0);
    }
}
