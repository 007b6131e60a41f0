/** The sentences of MONEY and of promises 18 to 23: what is owed, reported, received and booked. */
final class MoneySentences {
    static final String TWO = "member 0;member 0;version 0 10;version 5 33;licensee 0;licensee 25;licensee 100;"
            + "quorum 1 1;weight 1;";

    private static final String NO_MEMBER = "Throws `IndexOutOfBoundsException` if there is no such member";
    private static final String NO_LICENSEE = "Throws `IndexOutOfBoundsException` if there is no such licensee";

    private MoneySentences() {
    }

    static void run() {
        money();
        debts();
        accounts();
    }

    private static void money() {
        Sentences.of("MONEY")
                .tellsNoCase("All amounts are in cents.")
                .says("A report of a licensee about units of a version increases what the licensee owes by"
                        + " units * price * (100 - discount) / 100, rounded down.", MoneySentences::royalty)
                .says("The reported units of each licensee and each version in the present period are added up.",
                        MoneySentences::unitsAddUp)
                .says("At the close of a period, with the amount R received in it: R * costs / 100 goes to the costs"
                        + " and R * reserve / 100 goes to the reserve, both rounded down, and the remaining amount is"
                        + " shared; the shares are added to the accounts of the members.", MoneySentences::atClose)
                .says("Then a new period begins: nothing is received, and all reported units are 0.",
                        MoneySentences::newPeriod)
                .says("Periods are numbered from 0.", MoneySentences::firstPeriod);
    }

    private static void debts() {
        Sentences.of("Promise 18")
                .says("Returns what a licensee owes.", MoneySentences::owes)
                .says(NO_LICENSEE, () -> ChangeSentences.noSuchLicensee(PatentPool::owed));
        Sentences.of("Promise 19")
                .says("Returns the units that a licensee has reported for a version in the present period.",
                        MoneySentences::reportedNow)
                .says(NO_LICENSEE + " or version",
                        () -> ChangeSentences.noSuchLicenseeOrVersion(PatentPool::reported));
        Sentences.of("Promise 23")
                .says("Returns the licensee who owes most; of several the lowest; NONE if nobody owes anything.",
                        MoneySentences::owesMost);
    }

    private static void accounts() {
        Sentences.of("Promise 20")
                .says("Returns the account of a member.", MoneySentences::accountOfMember)
                .says(NO_MEMBER, () -> ChangeSentences.noSuchMember(PatentPool::account));
        Sentences.of("Promise 21")
                .says("Returns what a member got at the close of the latest period.", MoneySentences::latest)
                .says("Returns the share; 0 if no period was closed or the member was not there.",
                        MoneySentences::noShare)
                .says(NO_MEMBER, () -> ChangeSentences.noSuchMember(PatentPool::latestShare));
        Sentences.of("Promise 22")
                .tellsNoCase("Returns a total.")
                .says("- `what`: 0 received in the present period, 1 all costs, 2 the reserve, 3 everything that"
                        + " licensees have paid, 4 everything that was paid out to members", MoneySentences::totals)
                .says("Throws `IllegalArgumentException` if what is out of range", MoneySentences::wrongTotals);
    }

    private static void royalty() {
        PatentPool pool = Check.pool("version 0 1;version 0 9999;licensee 0;licensee 1;licensee 50;licensee 99;"
                + "licensee 100;");
        Check.same("no discount", 9999, () -> pool.report(0, 0, 9999));
        Check.same("the most", 9999 * 9999, () -> pool.report(0, 1, 9999));
        Check.same("both are owed", 9999L * 10000, () -> pool.owed(0));
        Check.same("1 cent less 1 percent", 0, () -> pool.report(1, 0, 1));
        Check.same("100 cents less 1 percent", 99, () -> pool.report(1, 0, 100));
        Check.same("101 cents less 1 percent", 99, () -> pool.report(1, 0, 101));
        Check.same("102 cents less 1 percent", 100, () -> pool.report(1, 0, 102));
        Check.same("a product above the ints", (int) (9999L * 9999 * 99 / 100), () -> pool.report(1, 1, 9999));
        Check.same("1 cent less half", 0, () -> pool.report(2, 0, 1));
        Check.same("3 cents less half", 1, () -> pool.report(2, 0, 3));
        Check.same("each report is rounded by itself", 1, () -> pool.owed(2));
        Check.same("99 cents less 99 percent", 0, () -> pool.report(3, 0, 99));
        Check.same("100 cents less 99 percent", 1, () -> pool.report(3, 0, 100));
        Check.same("everything off", 0, () -> pool.report(4, 1, 9999));
        Check.same("nothing is owed", 0, () -> pool.owed(4));
    }

    private static void unitsAddUp() {
        PatentPool pool = Check.pool("version 0 1;".repeat(4) + "licensee 0;".repeat(6));
        for (int pair = 0; pair < 24; pair++) {
            pool.report(pair / 4, pair % 4, 1 + pair);
            pool.report(pair / 4, pair % 4, 9999);
        }
        for (int pair = 0; pair < 24; pair++) {
            int one = pair;
            Check.same("units of pair " + one, 10000 + one, () -> pool.reported(one / 4, one % 4));
        }
        PatentPool free = Check.pool("version 0 1;licensee 100;");
        free.report(0, 0, 5);
        free.report(0, 0, 6);
        Check.same("units that cost nothing", 11, () -> free.reported(0, 0));
    }

    private static PatentPool received(String more, int amount) {
        PatentPool pool = Check.pool(TWO + more);
        pool.audit(0, 0, 99999);
        pool.pay(0, amount);
        return pool;
    }

    private static void closes(String more, int amount, int costs, int reserve, int first, int second) {
        PatentPool pool = received(more, amount);
        String what = more + amount;
        Check.same(what + " shared", first + second, pool::close);
        Check.same(what + " costs", costs, () -> pool.total(1));
        Check.same(what + " reserve", reserve, () -> pool.total(2));
        Check.same(what + " account 0", first, () -> pool.account(0));
        Check.same(what + " account 1", second, () -> pool.account(1));
    }

    private static void atClose() {
        closes("", 100, 10, 5, 43, 42);
        closes("", 99, 9, 4, 43, 43);
        closes("", 9, 0, 0, 5, 4);
        closes("", 10, 1, 0, 5, 4);
        closes("", 19, 1, 0, 9, 9);
        closes("", 20, 2, 1, 9, 8);
        closes("", 1, 0, 0, 1, 0);
        closes("costs 50;reserve 40;", 1, 0, 0, 1, 0);
        closes("costs 50;reserve 40;", 2, 1, 0, 1, 0);
        closes("costs 50;reserve 40;", 3, 1, 1, 1, 0);
        closes("costs 50;reserve 40;", 1000, 500, 400, 50, 50);
        closes("costs 0;reserve 0;", 1001, 0, 0, 501, 500);
        closes("costs 7;reserve 3;cap 45;", 99, 6, 13, 40, 40);
        PatentPool pool = received("", 100);
        pool.close();
        pool.pay(0, 100);
        pool.close();
        Check.same("added to the account", 86, () -> pool.account(0));
        Check.same("added to the costs", 20, () -> pool.total(1));
        Check.same("added to the reserve", 10, () -> pool.total(2));
    }

    private static void newPeriod() {
        PatentPool pool = Check.pool("version 0 1;".repeat(4) + "licensee 0;".repeat(6) + "member 0;weight 1;");
        for (int pair = 0; pair < 24; pair++) {
            pool.report(pair / 4, pair % 4, 5);
        }
        pool.pay(5, 20);
        pool.close();
        Check.same("received", 0, () -> pool.total(0));
        for (int pair = 0; pair < 24; pair++) {
            int one = pair;
            Check.same("reported of pair " + one, 0, () -> pool.reported(one / 4, one % 4));
        }
        Check.same("debts stay", 20, () -> pool.owed(4));
        Check.same("no debt", 0, () -> pool.owed(5));
        Check.state("nothing can be closed", pool::close);
        pool.report(5, 3, 2);
        Check.same("units of the new period alone", 2, () -> pool.reported(5, 3));
        Check.same("an audit counts from 0", 4, () -> pool.audit(0, 0, 3));
    }

    private static void firstPeriod() {
        PatentPool pool = received("", 3);
        Check.same("the first", 0, pool::period);
        pool.close();
        Check.same("the second", 1, pool::period);
        pool.pay(0, 1);
        pool.close();
        Check.same("the third", 2, pool::period);
        Check.parse(pool, "member 0;");
        Check.same("the first of a new pool", 0, pool::period);
    }

    // ---- promises 18, 19, 23

    private static void owes() {
        PatentPool pool = Check.pool(TWO);
        Check.same("at first", 0, () -> pool.owed(0));
        pool.report(0, 0, 7);
        pool.report(1, 0, 7);
        Check.same("after a report", 70, () -> pool.owed(0));
        Check.same("after a report with a discount", 52, () -> pool.owed(1));
        pool.pay(0, 20);
        Check.same("after a payment", 50, () -> pool.owed(0));
        pool.grantBack(0);
        Check.same("after a credit", 40, () -> pool.owed(0));
        pool.close();
        Check.same("after a close", 40, () -> pool.owed(0));
        pool.audit(0, 0, 1);
        Check.same("after an audit", 55, () -> pool.owed(0));
        pool.pay(0, 55);
        Check.same("all is paid", 0, () -> pool.owed(0));
        Check.same("another licensee", 0, () -> pool.owed(2));
        PatentPool large = Check.pool("version 0 9999;licensee 0;penalty 400;");
        large.audit(0, 0, 99999);
        Check.same("more than an int", 99999L * 9999 * 5, () -> large.owed(0));
    }

    private static void reportedNow() {
        PatentPool pool = Check.pool(TWO);
        Check.same("at first", 0, () -> pool.reported(0, 0));
        pool.report(0, 0, 9999);
        pool.report(0, 0, 1);
        Check.same("reported", 10000, () -> pool.reported(0, 0));
        Check.same("a version that is not released", 0, () -> pool.reported(0, 1));
        pool.pay(0, 1);
        Check.same("after a payment", 10000, () -> pool.reported(0, 0));
        pool.audit(0, 0, 99999);
        Check.same("after an audit", 99999, () -> pool.reported(0, 0));
        pool.report(0, 0, 9999);
        Check.same("more than an audit can tell", 109998, () -> pool.reported(0, 0));
        pool.close();
        Check.same("in the next period", 0, () -> pool.reported(0, 0));
    }

    private static void owesMost() {
        Check.same("no licensees", -1, () -> new PatentPool().largestDebtor());
        PatentPool pool = Check.pool(TWO);
        Check.same("nobody", -1, pool::largestDebtor);
        pool.report(2, 0, 9999);
        Check.same("nobody owes anything", -1, pool::largestDebtor);
        pool.report(1, 0, 4);
        Check.same("the only one", 1, pool::largestDebtor);
        pool.report(0, 0, 3);
        Check.same("the lowest of two", 0, pool::largestDebtor);
        pool.pay(0, 1);
        Check.same("one cent more", 1, pool::largestDebtor);
        pool.pay(1, 30);
        Check.same("the next", 0, pool::largestDebtor);
        pool.pay(0, 28);
        Check.same("one cent", 0, pool::largestDebtor);
        pool.pay(0, 1);
        Check.same("nobody again", -1, pool::largestDebtor);
        PatentPool last = Check.pool("version 0 9999;" + "licensee 0;".repeat(6) + "penalty 400;");
        last.audit(1, 0, 20000);
        last.audit(5, 0, 99999);
        Check.same("the last, more than an int", 5, last::largestDebtor);
    }

    // ---- promises 20 to 22

    private static void accountOfMember() {
        PatentPool pool = received("costs 0;reserve 0;", 101);
        Check.same("at first", 0, () -> pool.account(0));
        pool.close();
        Check.same("a share", 51, () -> pool.account(0));
        Check.same("another share", 50, () -> pool.account(1));
        pool.pay(0, 101);
        Check.same("before the close", 51, () -> pool.account(0));
        pool.close();
        Check.same("two shares", 102, () -> pool.account(0));
        pool.payOut(0);
        Check.same("paid out", 0, () -> pool.account(0));
        Check.same("the other is not", 100, () -> pool.account(1));
        pool.join();
        Check.same("a new member", 0, () -> pool.account(2));
    }

    private static void latest() {
        PatentPool pool = received("costs 0;reserve 0;", 101);
        pool.close();
        Check.same("the share", 51, () -> pool.latestShare(0));
        pool.payOut(0);
        Check.same("the share when it is paid out", 51, () -> pool.latestShare(0));
        pool.pay(0, 7);
        Check.same("before the next close", 50, () -> pool.latestShare(1));
        pool.close();
        Check.same("the next share", 4, () -> pool.latestShare(0));
        Check.same("the next share of the other", 3, () -> pool.latestShare(1));
        pool.undo();
        Check.same("undone", 51, () -> pool.latestShare(0));
    }

    private static void noShare() {
        PatentPool pool = received("costs 0;reserve 0;", 101);
        Check.same("no period was closed", 0, () -> pool.latestShare(0));
        pool.close();
        pool.join();
        Check.same("a member who was not there", 0, () -> pool.latestShare(2));
        pool.pay(0, 30);
        pool.close();
        Check.same("a member who was there", 10, () -> pool.latestShare(2));
        pool.pay(0, 1);
        pool.close();
        Check.same("a member who got nothing the last time", 0, () -> pool.latestShare(2));
        PatentPool later = Check.pool("member 5;member 0;version 0 1;licensee 0;weight 1;");
        later.report(0, 0, 100);
        later.pay(0, 100);
        later.close();
        Check.same("a member who had not joined", 0, () -> later.latestShare(0));
        Check.same("the member who had", 85, () -> later.latestShare(1));
    }

    private static void total(PatentPool pool, long... due) {
        for (int what = 0; what < due.length; what++) {
            int kind = what;
            Check.same("total " + kind, due[kind], () -> pool.total(kind));
        }
    }

    private static void totals() {
        PatentPool pool = Check.pool(TWO + "cap 40;");
        total(pool, 0, 0, 0, 0, 0);
        pool.report(0, 0, 999);
        pool.grantBack(0);
        total(pool, 0, 0, 0, 0, 0);
        pool.pay(0, 999);
        total(pool, 999, 0, 0, 999, 0);
        pool.pay(0, 1);
        total(pool, 1000, 0, 0, 1000, 0);
        pool.close();
        total(pool, 0, 100, 50 + 170, 1000, 0);
        pool.payOut(1);
        total(pool, 0, 100, 220, 1000, 340);
        pool.payOut(0);
        total(pool, 0, 100, 220, 1000, 680);
        pool.pay(0, 100);
        pool.close();
        total(pool, 0, 110, 220 + 5 + 17, 1100, 680);
        pool.payOut(0);
        total(pool, 0, 110, 242, 1100, 714);
        PatentPool large = Check.pool("version 0 9999;licensee 0;penalty 400;member 0;weight 1;costs 50;reserve 40;");
        large.audit(0, 0, 99999);
        large.pay(0, Integer.MAX_VALUE);
        large.pay(0, Integer.MAX_VALUE);
        total(large, 4294967294L, 0, 0, 4294967294L, 0);
        large.close();
        large.payOut(0);
        total(large, 0, 2147483647L, 1717986917L, 4294967294L, 429496730L);
    }

    private static void wrongTotals() {
        for (int what : new int[] {-1, 5, 6, Integer.MIN_VALUE, Integer.MAX_VALUE}) {
            Trace.refused("IllegalArgumentException", ChangeSentences::situation, pool -> pool.total(what));
        }
    }
}
