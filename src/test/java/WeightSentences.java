/** The sentences of WEIGHTS and of promises 13, 14, 16 and 17. */
final class WeightSentences {
    private static final String NO_MEMBER = "Throws `IndexOutOfBoundsException` if there is no such member";

    private WeightSentences() {
    }

    static void run() {
        weights();
        promises();
    }

    private static void weights() {
        Sentences.of("WEIGHTS")
                .says("The weight of a member who has not joined is 0.", WeightSentences::notJoined)
                .says("Otherwise the sum of weight is evaluated with these values: patents is the number of the"
                        + " member's patents that count for at least one version, pairs is the number of pairs of a"
                        + " patent of the member and a version for which it counts, days is the number of days since"
                        + " the member has joined.", WeightSentences::values)
                .says("Arithmetic is that of int with overflow; division truncates toward 0, and a division by 0"
                        + " gives 0.", WeightSentences::arithmetic)
                .says("Operators of the same rank are applied from left to right.", WeightSentences::leftToRight)
                .says("The value is limited to 0 to 1000000.", WeightSentences::limits)
                .says("If days is less than the days of late, the value is multiplied by the percent of late and"
                        + " divided by 100, rounded down.", WeightSentences::late);
    }

    private static void promises() {
        Sentences.of("Promise 13")
                .says("Returns the weight of a member.", WeightSentences::weightOfMember)
                .says(NO_MEMBER, () -> ChangeSentences.noSuchMember(PatentPool::weight));
        Sentences.of("Promise 14")
                .says("Returns what the weight of a member will be after some days if nothing but days passes.",
                        WeightSentences::future)
                .says("- `days`: 0 to 9999; the day then can be greater than 9999", WeightSentences::daysOfFuture)
                .says(NO_MEMBER + " (checked first)", () -> {
                    ChangeSentences.noSuchMember((pool, member) -> pool.weightAfter(member, 0));
                    ChangeSentences.noSuchMember((pool, member) -> pool.weightAfter(member, -1));
                    ChangeSentences.noSuchMember((pool, member) -> pool.weightAfter(member, 10000));
                })
                .says("Throws `IllegalArgumentException` if days is out of range", WeightSentences::wrongDays);
        Sentences.of("Promise 16")
                .says("Returns the smallest set of members whose weights together are more than half of all weights,"
                        + " as a bit set; of several sets with the fewest members the one with the lowest bit set;"
                        + " NONE if all weights are 0.", WeightSentences::smallestMajority);
        Sentences.of("Promise 17")
                .says("Returns the power of a member: the number of sets of other members that are no majority"
                        + " themselves but would be one together with this member.", WeightSentences::power)
                .says("A majority has more than half of all weights.", WeightSentences::moreThanHalf)
                .says("Returns the number, 0 to 128.", WeightSentences::leastAndMostPower)
                .says(NO_MEMBER, () -> ChangeSentences.noSuchMember(PatentPool::power));
    }

    /** A pool in which the weights of members are as given, by patents that count. */
    static PatentPool weighted(String more, int... weights) {
        StringBuilder text = new StringBuilder("version 0 1;licensee 0;quorum 1 1;" + more);
        for (int member = 0; member < weights.length; member++) {
            text.append("member 0;").append(("patent " + member + " 9999;").repeat(weights[member]));
        }
        PatentPool pool = Check.pool(text.toString());
        for (int patent = 0; patent < pool.size(2); patent++) {
            pool.vote(0, patent, 0, true);
        }
        return pool;
    }

    /** The weight by a sum, 3 days after joining. */
    private static void sum(String sum, int due) {
        PatentPool pool = Check.pool("member 0;weight " + sum + ";");
        pool.advance(3);
        Check.same("weight " + sum, due, () -> pool.weight(0));
    }

    private static void notJoined() {
        PatentPool pool = Check.pool("member 5;member 9999;version 0 1;patent 0 9;quorum 1 1;weight 7+patents+days;");
        pool.vote(0, 0, 0, true);
        Check.same("on day 0", 0, () -> pool.weight(0));
        pool.advance(4);
        Check.same("a day before", 0, () -> pool.weight(0));
        pool.advance(1);
        Check.same("on its day", 8, () -> pool.weight(0));
        Check.same("another member", 0, () -> pool.weight(1));
        pool.advance(9993);
        Check.same("on day 9998", 0, () -> pool.weight(1));
        pool.advance(1);
        Check.same("on day 9999", 7, () -> pool.weight(1));
    }

    private static void values() {
        PatentPool pool = Check.pool("member 0;member 2;" + "version 0 1;".repeat(4) + "patent 0 5;".repeat(8)
                + "patent 1 6;".repeat(8) + "quorum 1 1;weight patents*1000+pairs*10+days*9999;");
        Check.same("nothing counts", 0, () -> pool.weight(0));
        pool.vote(0, 0, 3, true);
        Check.same("a pair", 1010, () -> pool.weight(0));
        pool.vote(0, 0, 2, true);
        Check.same("a patent that counts for two versions", 1020, () -> pool.weight(0));
        pool.vote(0, 1, 2, true);
        Check.same("two patents", 2030, () -> pool.weight(0));
        pool.vote(0, 1, 1, false);
        Check.same("a negative decision", 2030, () -> pool.weight(0));
        for (int pair = 32; pair < 64; pair++) {
            pool.vote(0, pair / 4, pair % 4, true);
        }
        Check.same("another member's patents", 2030, () -> pool.weight(0));
        Check.same("not joined", 0, () -> pool.weight(1));
        pool.advance(2);
        Check.same("eight patents, 32 pairs, day 0 of it", 8320, () -> pool.weight(1));
        Check.same("two days", 2030 + 2 * 9999, () -> pool.weight(0));
        pool.advance(3);
        Check.same("no patent in force", 5 * 9999, () -> pool.weight(0));
        Check.same("the last day in force", 8320 + 3 * 9999, () -> pool.weight(1));
        PatentPool full = Check.pool("member 0;" + "version 0 1;".repeat(4) + "patent 0 5;".repeat(16)
                + "quorum 1 1;weight patents*1000+pairs;");
        for (int pair = 0; pair < 64; pair++) {
            full.vote(0, pair / 4, pair % 4, true);
        }
        Check.same("16 patents, 64 pairs", 16064, () -> full.weight(0));
    }

    private static void arithmetic() {
        sum("9999*9999*43", Math.max(0, Math.min(1000000, 9999 * 9999 * 43)));
        sum("2048*2048*512", 0);
        sum("2048*2048*512-1", 1000000);
        sum("(2048*2048*512-1+1)/(0-4096)", 524288);
        sum("(2048*2048*512)/(0-1)", 0);
        sum("(2048*2048*512)/(0-1)/(0-4096)", 524288);
        sum("2048*2048*1024", 0);
        sum("2048*2048*1024+7", 7);
        sum("0-2048*2048*512-1-2048*2048*512+9", 8);
        sum("9999*9999*9999*9999/1000", Math.max(0, Math.min(1000000, 9999 * 9999 * 9999 * 9999 / 1000)));
        sum("7/2", 3);
        sum("10+(0-7)/2", 7);
        sum("10+7/(0-2)", 7);
        sum("10+(0-7)/(0-2)", 13);
        sum("10+(0-1)/2", 10);
        sum("5/0", 0);
        sum("(0-5)/0+1", 1);
        sum("0/0+1", 1);
        sum("5+5/0", 5);
        sum("5+5/0*9", 5);
        sum("5+5/(days-3)", 5);
        sum("5/(1/2)+2", 2);
        sum("5/patents+4/pairs+1", 1);
    }

    private static void leftToRight() {
        sum("20-5-4", 11);
        sum("20-5+4", 19);
        sum("20-(5+4)", 11);
        sum("64/4/4", 4);
        sum("64/(4/4)", 64);
        sum("100/7*2", 28);
        sum("2*7/4", 3);
        sum("7/4*2", 2);
        sum("2+3*4", 14);
        sum("2*3+4", 10);
        sum("20-6/2", 17);
        sum("(20-6)/2", 7);
        sum("1-2*3+8", 3);
        sum("1+2*(3+4*(5+6*(7+8*(9+days*2))))", 1 + 2 * (3 + 4 * (5 + 6 * (7 + 8 * (9 + 3 * 2)))));
        sum("1+2*(3+4*(5+6*(7+8*(9+10*(11+2*days)))))",
                1 + 2 * (3 + 4 * (5 + 6 * (7 + 8 * (9 + 10 * (11 + 2 * 3))))));
        sum("2*3*4" + "/1*1".repeat(160), 24);
        sum("1" + "-1+1".repeat(160) + "-1+9", 9);
    }

    private static void limits() {
        sum("0", 0);
        sum("1", 1);
        sum("0-1", 0);
        sum("0-9999*9999", 0);
        sum("1000*1000-1", 999999);
        sum("1000*1000", 1000000);
        sum("1000*1000+1", 1000000);
        sum("9999*9999", 1000000);
        sum("9999*9999/9999", 9999);
        sum("5-9+7", 3);
        sum("(0-9)*(0-9)", 81);
    }

    private static void late() {
        PatentPool pool = Check.pool("member 0;member 10;late 5 33;weight 10+days;");
        Check.same("day 0", 3, () -> pool.weight(0));
        pool.advance(4);
        Check.same("a day less", 4, () -> pool.weight(0));
        pool.advance(1);
        Check.same("not less", 15, () -> pool.weight(0));
        Check.same("before joining", 0, () -> pool.weight(1));
        Check.same("days since joining, less", 4, () -> pool.weightAfter(1, 9));
        Check.same("days since joining, not less", 15, () -> pool.weightAfter(1, 10));
        Check.same("rounded down", 0, () -> Check.pool("member 0;late 1 99;weight 1;").weight(0));
        Check.same("rounded down to 98", 98, () -> Check.pool("member 0;late 1 99;weight 99+1/2;").weight(0));
        Check.same("after the limit", 10000, () -> Check.pool("member 0;late 1 1;weight 9999*9999;").weight(0));
        Check.same("after the limit of 0", 0, () -> Check.pool("member 0;late 1 50;weight 0-9;").weight(0));
        PatentPool joined = Check.pool("late 2 50;weight 8;");
        joined.advance(7);
        joined.join();
        Check.same("one who joins later", 4, () -> joined.weight(0));
        joined.advance(1);
        Check.same("the day after", 4, () -> joined.weight(0));
        joined.advance(1);
        Check.same("two days after", 8, () -> joined.weight(0));
    }

    private static void weightOfMember() {
        PatentPool pool = Check.pool("member 0;member 1;member 2;member 3;member 4;member 5;member 6;member 7;"
                + "weight days+1;");
        pool.advance(7);
        for (int member = 0; member < 8; member++) {
            int one = member;
            Check.same("member " + one, 8 - one, () -> pool.weight(one));
        }
    }

    private static void future() {
        PatentPool pool = Check.pool("member 0;member 10;version 0 1;version 4 1;patent 0 6;patent 1 12;quorum 1 50;"
                + "late 3 50;weight pairs*100+days;");
        pool.vote(0, 0, 0, true);
        pool.vote(0, 1, 0, true);
        int[] first = {50, 50, 51, 103, 104, 105, 6, 7};
        for (int days = 0; days < first.length; days++) {
            int later = days;
            Check.same("after " + later, first[later], () -> pool.weightAfter(0, later));
        }
        Check.same("before joining", 0, () -> pool.weightAfter(1, 9));
        Check.same("on joining", 50, () -> pool.weightAfter(1, 10));
        Check.same("the last day in force", 50, () -> pool.weightAfter(1, 11));
        Check.same("the day of expiry", 1, () -> pool.weightAfter(1, 12));
        Check.same("today is as before", 0, pool::today);
        Check.same("and so is the weight", 50, () -> pool.weight(0));
        Check.same("it is no change", 1, pool::undo);
    }

    private static void daysOfFuture() {
        PatentPool pool = Check.pool("member 0;member 9999;weight days+1;");
        Check.same("0 days", 1, () -> pool.weightAfter(0, 0));
        Check.same("9999 days", 10000, () -> pool.weightAfter(0, 9999));
        Check.same("one who joins on day 9999", 1, () -> pool.weightAfter(1, 9999));
        pool.advance(9999);
        Check.same("day 9999", 10000, () -> pool.weightAfter(0, 0));
        Check.same("day 10000", 10001, () -> pool.weightAfter(0, 1));
        Check.same("day 19998", 19999, () -> pool.weightAfter(0, 9999));
    }

    private static void wrongDays() {
        for (int days : new int[] {-1, 10000, Integer.MIN_VALUE, Integer.MAX_VALUE}) {
            Trace.refused("IllegalArgumentException", ChangeSentences::situation,
                    pool -> pool.weightAfter(0, days));
        }
        PatentPool last = new PatentPool();
        last.join();
        last.advance(9999);
        Check.argument("-1 on the last day", () -> last.weightAfter(0, -1));
        Check.argument("10000 on the last day", () -> last.weightAfter(0, 10000));
    }

    private static void smallestMajority() {
        Check.same("one is enough", 1, () -> weighted("", 4, 2, 1).smallestMajority());
        Check.same("the last is enough", 4, () -> weighted("", 1, 2, 4).smallestMajority());
        Check.same("half is not enough", 3, () -> weighted("", 3, 1, 2).smallestMajority());
        Check.same("half is not enough for the last", 5, () -> weighted("", 2, 2, 4).smallestMajority());
        Check.same("half of an odd sum", 4, () -> weighted("", 1, 1, 3).smallestMajority());
        Check.same("half of an odd sum is rounded up", 3, () -> weighted("", 1, 1, 1).smallestMajority());
        Check.same("equal weights", 7, () -> weighted("", 1, 1, 1, 1).smallestMajority());
        Check.same("fewer members beat lower sets", 24, () -> weighted("", 1, 1, 1, 3, 2).smallestMajority());
        Check.same("the lowest of three sets", 5, () -> weighted("", 3, 1, 3, 3).smallestMajority());
        Check.same("the lowest number of a set, not the lowest member", 14,
                () -> weighted("", 1, 2, 2, 2, 3).smallestMajority());
        Check.same("weights of 0 do not help", 2, () -> weighted("", 0, 1, 0).smallestMajority());
        Check.same("all weights are 0", -1, () -> weighted("", 0, 0).smallestMajority());
        Check.same("no members", -1, () -> new PatentPool().smallestMajority());
        Check.same("eight members", 31, () -> weighted("", 2, 2, 2, 2, 2, 2, 2, 2).smallestMajority());
        Check.same("the last of eight", 128, () -> weighted("", 1, 1, 1, 1, 1, 1, 1, 8).smallestMajority());
        Check.same("the largest weights", 31,
                () -> Check.pool("member 0;".repeat(8) + "weight 1000*1000;").smallestMajority());
        PatentPool later = Check.pool("member 5;member 5;weight 3;");
        Check.same("nobody has joined", -1, later::smallestMajority);
        later.advance(5);
        Check.same("both have joined", 3, later::smallestMajority);
    }

    private static void powers(PatentPool pool, int... due) {
        for (int member = 0; member < due.length; member++) {
            int one = member;
            Check.same("power of " + one, due[one], () -> pool.power(one));
        }
    }

    private static void power() {
        powers(weighted("", 1, 1, 1), 2, 2, 2);
        powers(weighted("", 3, 1, 1), 4, 0, 0);
        powers(weighted("", 2, 1, 1), 3, 1, 1);
        powers(weighted("", 4, 3, 2, 1), 5, 3, 3, 1);
        powers(weighted("", 2, 2, 2, 2, 2, 2, 2, 2), 35, 35, 35, 35, 35, 35, 35, 35);
        PatentPool pool = Check.pool("member 0;member 5;weight 3;");
        powers(pool, 2, 0);
        pool.advance(5);
        powers(pool, 1, 1);
        pool.join();
        powers(pool, 2, 2, 2);
    }

    private static void moreThanHalf() {
        powers(weighted("", 1, 1), 1, 1);
        powers(weighted("", 2, 1, 1), 3, 1, 1);
        powers(weighted("", 1, 1, 3), 0, 0, 4);
        powers(weighted("", 1, 2, 3), 1, 1, 3);
        powers(Check.pool("member 0;".repeat(3) + "weight 1000*1000;"), 2, 2, 2);
    }

    private static void leastAndMostPower() {
        powers(weighted("", 0), 0);
        powers(weighted("", 0, 0, 0), 0, 0, 0);
        powers(weighted("", 1), 1);
        powers(weighted("", 9, 1, 1, 1, 1, 1, 1, 1), 128, 0, 0, 0, 0, 0, 0, 0);
        powers(weighted("", 0, 0, 0, 0, 0, 0, 0, 1), 0, 0, 0, 0, 0, 0, 0, 128);
    }
}
