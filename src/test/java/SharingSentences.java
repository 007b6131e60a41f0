/** The sentences of SHARING and of promise 15. */
final class SharingSentences {
    private SharingSentences() {
    }

    static void run() {
        quotas();
        rests();
        Sentences.of("Promise 15")
                .says("Returns what a member would get if an amount were shared now.", SharingSentences::sharedNow)
                .says("- `amount`: 0 to 1000000000", SharingSentences::amounts)
                .says("Throws `IndexOutOfBoundsException` if there is no such member (checked first)", () -> {
                    ChangeSentences.noSuchMember((pool, member) -> pool.shareOf(member, 0));
                    ChangeSentences.noSuchMember((pool, member) -> pool.shareOf(member, -1));
                    ChangeSentences.noSuchMember((pool, member) -> pool.shareOf(member, 1000000001));
                })
                .says("Throws `IllegalArgumentException` if amount is out of range", SharingSentences::wrongAmounts);
    }

    private static void quotas() {
        Sentences.of("SHARING")
                .tellsNoCase("An amount is shared among the members like this.")
                .says("The limit is amount * cap / 100, rounded down.", SharingSentences::limit)
                .says("The open members are at first those with a weight greater than 0, and the rest is the"
                        + " amount.", SharingSentences::openMembers)
                .says("The following is repeated: let W be the sum of the weights of the open members; the quota of"
                        + " an open member is rest * weight / W, rounded down.", SharingSentences::quota)
                .says("All open members whose quota is greater than the limit get the limit, are not open any more,"
                        + " and the rest is less by these limits.", SharingSentences::aboveLimit);
    }

    private static void rests() {
        Sentences.of("SHARING")
                .says("When there is no such member, each open member gets the quota, and the rest is less by all of"
                        + " these.", SharingSentences::nobodyAbove)
                .says("Then the open members are considered by descending remainder (rest * weight) modulo W, with"
                        + " the rest as it was when these quotas were computed, with equal remainders by ascending"
                        + " number: as long as the rest is greater than 0, each one whose share is less than the"
                        + " limit gets 1 more, and the rest is 1 less.", SharingSentences::remainders)
                .says("What remains of the rest in the end (all of it if no member is open) goes to the reserve.",
                        SharingSentences::reserve);
    }

    /** The shares of an amount by weights, as shareOf tells them and as a close books them, with the reserve. */
    private static void shares(String rules, int[] weights, int amount, int reserve, int... due) {
        PatentPool pool = WeightSentences.weighted(rules + "costs 0;reserve 0;", weights);
        String what = rules + " " + amount + " by " + java.util.Arrays.toString(weights);
        for (int member = 0; member < due.length; member++) {
            int one = member;
            Check.same(what + ": shareOf " + one, due[one], () -> pool.shareOf(one, amount));
        }
        if (amount == 0) {
            return;
        }
        pool.audit(0, 0, 99999);
        pool.pay(0, amount);
        Check.same(what + ": close", amount - reserve, pool::close);
        for (int member = 0; member < due.length; member++) {
            int one = member;
            Check.same(what + ": account " + one, due[one], () -> pool.account(one));
        }
        Check.same(what + ": reserve", reserve, () -> pool.total(2));
    }

    private static int[] by(int... weights) {
        return weights;
    }

    private static void limit() {
        shares("cap 33;", by(1), 99, 67, 32);
        shares("cap 33;", by(1), 100, 67, 33);
        shares("cap 33;", by(1), 101, 68, 33);
        shares("cap 33;", by(1), 103, 70, 33);
        shares("cap 33;", by(1), 104, 70, 34);
        shares("cap 1;", by(1), 99, 99, 0);
        shares("cap 1;", by(1), 100, 99, 1);
        shares("cap 50;", by(1), 1, 1, 0);
        shares("cap 99;", by(1), 1, 1, 0);
        shares("cap 100;", by(1), 1, 0, 1);
        shares("", by(1), 12345, 0, 12345);
        shares("cap 0050;", by(5), 101, 51, 50);
        PatentPool most = WeightSentences.weighted("cap 99;", 1);
        Check.same("the limit of the largest amount", 990000000, () -> most.shareOf(0, 1000000000));
    }

    private static void openMembers() {
        shares("", by(0, 1, 0), 7, 0, 0, 7, 0);
        shares("", by(0, 1, 1), 1, 0, 0, 1, 0);
        shares("cap 40;", by(0, 1, 1), 3, 1, 0, 1, 1);
        shares("", by(0, 0), 7, 7, 0, 0);
        shares("", by(1, 1), 0, 0, 0, 0);
        PatentPool later = Check.pool("member 1;member 0;weight 5;");
        Check.same("not joined", 0, () -> later.shareOf(0, 10));
        Check.same("the other gets all", 10, () -> later.shareOf(1, 10));
        later.advance(1);
        Check.same("joined", 5, () -> later.shareOf(0, 10));
        PatentPool late = Check.pool("member 0;member 1;late 1 0;weight 5;");
        late.advance(1);
        Check.same("a weight that late makes 0", 0, () -> late.shareOf(1, 10));
        Check.same("the other gets all of it", 10, () -> late.shareOf(0, 10));
    }

    private static void quota() {
        shares("", by(1, 2, 3), 600, 0, 100, 200, 300);
        shares("", by(1, 2, 3), 5, 0, 1, 2, 2);
        shares("cap 30;", by(1, 2), 20, 8, 6, 6);
        shares("cap 40;", by(1, 2), 8, 2, 3, 3);
        shares("cap 60;", by(1, 2), 9, 0, 4, 5);
        shares("cap 60;", by(2, 1), 9, 0, 5, 4);
        shares("cap 60;", by(1, 4), 5, 0, 2, 3);
        shares("cap 40;", by(1, 2, 7), 100, 0, 20, 40, 40);
        shares("cap 50;", by(1, 2, 7), 100, 0, 17, 33, 50);
        shares("cap 35;", by(1, 3, 4, 8), 1000, 0, 81, 244, 325, 350);
        PatentPool large = Check.pool("member 0;".repeat(8) + "weight 1000*1000;");
        Check.same("the largest weights", 125000000, () -> large.shareOf(7, 1000000000));
        largestProducts();
    }

    /** As much as 24 audits bring, by the largest weights: products far above the ints. */
    private static void largestProducts() {
        PatentPool pool = Check.pool("member 0;".repeat(3) + "version 0 9999;".repeat(4) + "licensee 0;".repeat(6)
                + "penalty 400;costs 0;reserve 0;cap 40;weight 1000*1000;");
        for (int pair = 0; pair < 24; pair++) {
            pool.audit(pair / 4, pair % 4, 99999);
        }
        for (int licensee = 0; licensee < 6; licensee++) {
            for (long owed = pool.owed(licensee); owed > 0; owed = pool.owed(licensee)) {
                pool.pay(licensee, (int) Math.min(owed, Integer.MAX_VALUE));
            }
        }
        long all = 24L * 5 * 99999 * 9999;
        Check.same("everything is received", all, () -> pool.total(0));
        Check.same("everything is shared", all, pool::close);
        for (int member = 0; member < 3; member++) {
            int one = member;
            Check.same("a third", all / 3, () -> pool.account(one));
        }
    }

    private static void aboveLimit() {
        shares("cap 50;", by(1, 1), 100, 0, 50, 50);
        shares("cap 49;", by(1, 1), 100, 2, 49, 49);
        shares("cap 34;", by(1, 2, 2), 9, 1, 2, 3, 3);
        shares("cap 34;", by(1, 3, 3), 6, 1, 1, 2, 2);
        shares("cap 30;", by(1, 1, 4, 8), 1000, 0, 200, 200, 300, 300);
        shares("cap 25;", by(1, 1, 1, 1), 7, 3, 1, 1, 1, 1);
        shares("cap 20;", by(1, 2, 3), 100, 40, 20, 20, 20);
        PatentPool rounds = Check.pool("member 0;member 427;member 579;member 636;member 658;member 667;"
                + "member 671;member 673;cap 12;weight days*days;");
        rounds.advance(683);
        for (int member = 0; member < 8; member++) {
            int one = member;
            Check.same("one in each of eight rounds", 1200, () -> rounds.shareOf(one, 10000));
        }
    }

    private static void nobodyAbove() {
        shares("", by(3, 5), 80, 0, 30, 50);
        shares("cap 63;", by(3, 5), 80, 0, 30, 50);
        shares("cap 62;", by(3, 5), 80, 0, 31, 49);
        shares("", by(2, 2, 3, 1), 5, 0, 1, 1, 2, 1);
        shares("", by(1, 1, 1), 99, 0, 33, 33, 33);
        shares("", by(1, 1, 1), 2, 0, 1, 1, 0);
    }

    private static void remainders() {
        shares("", by(1, 2), 1, 0, 0, 1);
        shares("", by(2, 1), 2, 0, 1, 1);
        shares("", by(1, 2), 2, 0, 1, 1);
        shares("", by(1, 4), 3, 0, 1, 2);
        shares("", by(1, 1), 1, 0, 1, 0);
        shares("", by(1, 3), 2, 0, 1, 1);
        shares("", by(1, 1, 1), 101, 0, 34, 34, 33);
        shares("", by(1, 2, 2, 1), 4, 0, 1, 1, 1, 1);
        shares("", by(3, 7, 1), 1, 0, 0, 1, 0);
        shares("cap 50;", by(1, 1), 101, 1, 50, 50);
        shares("cap 50;", by(2, 1, 1), 101, 0, 50, 26, 25);
        shares("cap 40;", by(2, 2, 3), 10, 0, 3, 3, 4);
        shares("cap 30;", by(1, 1, 1, 2), 7, 0, 2, 2, 1, 2);
        shares("cap 50;", by(1, 4, 7), 4, 0, 1, 1, 2);
        shares("cap 20;", by(1, 1), 1, 1, 0, 0);
        PatentPool seven = Check.pool("member 0;" + "member 24;".repeat(7) + "cap 35;weight days;");
        seven.advance(31);
        int[] due = {3, 1, 1, 1, 1, 1, 1, 1};
        for (int member = 0; member < 8; member++) {
            int one = member;
            Check.same("seven equal remainders", due[one], () -> seven.shareOf(one, 10));
        }
    }

    private static void reserve() {
        shares("cap 50;", by(1), 1000, 500, 500);
        shares("cap 30;", by(1, 1), 1000, 400, 300, 300);
        shares("cap 33;", by(1, 1, 1), 100, 1, 33, 33, 33);
        shares("", by(0), 55, 55, 0);
        shares("", by(), 55, 55);
        shares("cap 1;", by(1, 1), 55, 55, 0, 0);
        shares("", by(1, 1, 1), 100, 0, 34, 33, 33);
    }

    private static void sharedNow() {
        PatentPool pool = WeightSentences.weighted("", 1, 2, 3);
        Check.same("before a vote", 100, () -> pool.shareOf(0, 600));
        pool.vote(0, 0, 0, false);
        Check.same("after a vote", 0, () -> pool.shareOf(0, 600));
        Check.same("after a vote, the others", 360, () -> pool.shareOf(2, 600));
        Check.same("nothing is booked", 0, () -> pool.account(2));
        Check.same("no latest share", 0, () -> pool.latestShare(2));
        Check.same("nothing goes to the reserve", 0, () -> pool.total(2));
        Check.same("it is no change: only the votes are", 6, pool::undo);
    }

    private static void amounts() {
        PatentPool pool = WeightSentences.weighted("", 1, 2);
        Check.same("0", 0, () -> pool.shareOf(0, 0));
        Check.same("1", 1, () -> pool.shareOf(1, 1));
        Check.same("1000000000 of one", 333333333, () -> pool.shareOf(0, 1000000000));
        Check.same("1000000000 of the other", 666666667, () -> pool.shareOf(1, 1000000000));
        PatentPool large = Check.pool("member 0;weight 9999*9999;");
        Check.same("1000000000 by the largest weight", 1000000000, () -> large.shareOf(0, 1000000000));
    }

    private static void wrongAmounts() {
        for (int amount : new int[] {-1, 1000000001, Integer.MIN_VALUE, Integer.MAX_VALUE}) {
            Trace.refused("IllegalArgumentException", ChangeSentences::situation,
                    pool -> pool.shareOf(0, amount));
        }
    }
}
