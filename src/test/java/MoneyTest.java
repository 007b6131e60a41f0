/** Promises 18 to 23 and 29 to 34: what money is where, and the changes that move it. */
public final class MoneyTest {
    private static final String TWO = "member 0; member 0; version 0 10; version 5 33; licensee 0; licensee 25;"
            + "licensee 100; quorum 1 1; weight 1;";

    public static void main(String[] args) {
        promise18Owed();
        promise19Reported();
        promise20Account();
        promise21LatestShare();
        promise22Total();
        promise23LargestDebtor();
        promise29Report();
        promise29Wrong();
        promise30GrantBack();
        promise31Pay();
        promise32Audit();
        promise32Wrong();
        promise33Close();
        promise33LargeAmounts();
        promise34PayOut();
        Check.end();
    }

    private static void promise18Owed() {
        PatentPool pool = Check.pool(TWO);
        Check.same("at first", 0, () -> pool.owed(0));
        pool.report(0, 0, 7);
        pool.report(1, 0, 7);
        Check.same("owed", 70, () -> pool.owed(0));
        Check.same("owed with a discount", 52, () -> pool.owed(1));
        pool.pay(0, 20);
        Check.same("owed after a payment", 50, () -> pool.owed(0));
        pool.grantBack(0);
        Check.same("owed after a credit", 40, () -> pool.owed(0));
        pool.close();
        Check.same("owed after a close", 40, () -> pool.owed(0));
        pool.report(0, 0, 1);
        Check.same("owed adds up", 50, () -> pool.owed(0));
        Check.same("another licensee", 0, () -> pool.owed(2));
        wrongLicensees("owed", pool::owed);
        PatentPool large = Check.pool("version 0 9999; licensee 0; penalty 400;");
        large.audit(0, 0, 99999);
        Check.same("more than an int", 99999L * 9999 * 5, () -> large.owed(0));
    }

    private interface Numbered {
        Object answer(int number);
    }

    private static void wrongLicensees(String what, Numbered call) {
        for (int number : new int[] {-1, 3, 6, Integer.MAX_VALUE, Integer.MIN_VALUE}) {
            Check.index(what + " of " + number, () -> call.answer(number));
        }
    }

    private static void wrongMembers(String what, Numbered call) {
        for (int number : new int[] {-1, 2, 8, Integer.MAX_VALUE, Integer.MIN_VALUE}) {
            Check.index(what + " of " + number, () -> call.answer(number));
        }
    }

    private static void promise19Reported() {
        PatentPool pool = Check.pool(TWO);
        pool.advance(5);
        pool.report(1, 1, 9999);
        pool.report(1, 1, 9999);
        pool.report(1, 0, 4);
        Check.same("reported", 19998, () -> pool.reported(1, 1));
        Check.same("another version", 4, () -> pool.reported(1, 0));
        Check.same("another licensee", 0, () -> pool.reported(0, 1));
        pool.grantBack(1);
        pool.pay(1, 1);
        Check.same("after a payment", 19998, () -> pool.reported(1, 1));
        pool.close();
        Check.same("in the next period", 0, () -> pool.reported(1, 1));
        Check.same("in the next period, other version", 0, () -> pool.reported(1, 0));
        wrongLicensees("reported", number -> pool.reported(number, 0));
        Check.index("no such version", () -> pool.reported(0, 2));
        Check.index("below all versions", () -> pool.reported(0, -1));
    }

    private static void promise20Account() {
        PatentPool pool = Check.pool(TWO + "costs 0; reserve 0;");
        Check.same("at first", 0, () -> pool.account(0));
        pool.report(0, 0, 100);
        pool.pay(0, 101);
        pool.close();
        pool.pay(0, 101);
        Check.same("before the close", 51, () -> pool.account(0));
        pool.close();
        Check.same("two shares", 102, () -> pool.account(0));
        Check.same("two shares of the other", 100, () -> pool.account(1));
        pool.payOut(0);
        Check.same("paid out", 0, () -> pool.account(0));
        Check.same("the other is not paid out", 100, () -> pool.account(1));
        wrongMembers("account", pool::account);
        pool.join();
        Check.same("a new member", 0, () -> pool.account(2));
    }

    private static void promise21LatestShare() {
        PatentPool pool = Check.pool(TWO + "costs 0; reserve 0;");
        Check.same("at first", 0, () -> pool.latestShare(0));
        pool.report(0, 0, 100);
        pool.pay(0, 101);
        pool.close();
        Check.same("the share", 51, () -> pool.latestShare(0));
        pool.payOut(0);
        Check.same("the share stays", 51, () -> pool.latestShare(0));
        pool.join();
        Check.same("a member who was not there", 0, () -> pool.latestShare(2));
        pool.pay(0, 30);
        Check.same("before the next close", 50, () -> pool.latestShare(1));
        pool.close();
        Check.same("the next share", 10, () -> pool.latestShare(1));
        Check.same("the share of the new one", 10, () -> pool.latestShare(2));
        pool.undo();
        pool.undo();
        pool.undo();
        Check.index("the new one is gone", () -> pool.latestShare(2));
        pool.join();
        Check.same("a new one again", 0, () -> pool.latestShare(2));
        pool.undo();
        wrongMembers("latestShare", pool::latestShare);
    }

    private static void promise22Total() {
        PatentPool pool = Check.pool(TWO + "cap 40;");
        pool.report(0, 0, 999);
        pool.pay(0, 999);
        Check.same("received", 999, () -> pool.total(0));
        Check.same("paid", 999, () -> pool.total(3));
        pool.pay(0, 1);
        Check.same("received twice", 1000, () -> pool.total(0));
        Check.same("costs before the close", 0, () -> pool.total(1));
        pool.close();
        Check.same("received after the close", 0, () -> pool.total(0));
        Check.same("costs", 100, () -> pool.total(1));
        Check.same("reserve with what is above the cap", 50 + 170, () -> pool.total(2));
        Check.same("paid after the close", 1000, () -> pool.total(3));
        Check.same("not paid out yet", 0, () -> pool.total(4));
        pool.payOut(1);
        Check.same("paid out", 340, () -> pool.total(4));
        pool.payOut(0);
        Check.same("paid out twice", 680, () -> pool.total(4));
        pool.pay(0, 100);
        pool.close();
        Check.same("costs twice", 110, () -> pool.total(1));
        Check.same("reserve twice", 220 + 5 + 17, () -> pool.total(2));
        Check.same("paid twice", 1100, () -> pool.total(3));
        for (int what : new int[] {-1, 5, Integer.MAX_VALUE, Integer.MIN_VALUE}) {
            Check.argument("total " + what, () -> pool.total(what));
        }
    }

    private static void promise23LargestDebtor() {
        PatentPool pool = Check.pool(TWO);
        Check.same("nobody", -1, pool::largestDebtor);
        pool.report(2, 0, 9999);
        Check.same("nobody owes anything", -1, pool::largestDebtor);
        pool.report(1, 0, 4);
        Check.same("the only one", 1, pool::largestDebtor);
        pool.report(0, 0, 3);
        Check.same("the lowest", 0, pool::largestDebtor);
        pool.pay(0, 1);
        Check.same("the largest", 1, pool::largestDebtor);
        pool.pay(1, 30);
        Check.same("the next", 0, pool::largestDebtor);
        pool.pay(0, 28);
        Check.same("one cent", 0, pool::largestDebtor);
        pool.pay(0, 1);
        Check.same("nobody again", -1, pool::largestDebtor);
        Check.same("no licensees", -1, () -> new PatentPool().largestDebtor());
        PatentPool large = Check.pool("version 0 9999; licensee 0; licensee 0; penalty 400;");
        large.report(0, 0, 9999);
        large.audit(1, 0, 99999);
        Check.same("more than an int", 1, large::largestDebtor);
    }

    private static void promise29Report() {
        PatentPool pool = Check.pool(TWO);
        Check.same("no discount", 30, () -> pool.report(0, 0, 3));
        Check.same("rounded down", 7, () -> pool.report(1, 0, 1));
        Check.same("each report is rounded", 7, () -> pool.report(1, 0, 1));
        Check.same("all is off", 0, () -> pool.report(2, 0, 9999));
        Check.same("it is a change", 9999, () -> pool.reported(2, 0));
        Check.same("owed", 14, () -> pool.owed(1));
        pool.advance(4);
        Check.state("a day before the release", () -> pool.report(0, 1, 1));
        pool.advance(1);
        Check.same("the day of the release", 33, () -> pool.report(0, 1, 1));
        PatentPool large = Check.pool("version 0 9999; licensee 0; licensee 1;");
        Check.same("the largest royalty", 9999 * 9999, () -> large.report(0, 0, 9999));
        Check.same("a large royalty", (int) (9999L * 9999 * 99 / 100), () -> large.report(1, 0, 9999));
    }

    private static void promise29Wrong() {
        PatentPool pool = Check.pool(TWO);
        wrongLicensees("report", number -> pool.report(number, 1, 0));
        Check.index("no such version", () -> pool.report(0, 2, 0));
        Check.index("below all versions", () -> pool.report(0, -1, 0));
        Check.argument("no units", () -> pool.report(0, 0, 0));
        Check.argument("too many units", () -> pool.report(0, 0, 10000));
        Check.argument("negative units", () -> pool.report(0, 0, Integer.MIN_VALUE));
        Check.argument("units are checked second", () -> pool.report(0, 1, 0));
        Check.state("not released", () -> pool.report(0, 1, 1));
        Check.same("nothing has changed", 0, () -> pool.reported(0, 0));
        Check.same("no change to undo", -1, pool::undo);
    }

    private static void promise30GrantBack() {
        PatentPool pool = Check.pool(TWO + "credit 50 30;");
        Check.state("nothing is owed", () -> pool.grantBack(0));
        pool.report(0, 0, 11);
        Check.same("rounded down", 33, () -> pool.grantBack(0));
        Check.same("owed", 77, () -> pool.owed(0));
        Check.state("a second one", () -> pool.grantBack(0));
        pool.report(1, 0, 100);
        Check.same("at most the amount", 50, () -> pool.grantBack(1));
        Check.same("owed less", 700, () -> pool.owed(1));
        Check.same("nothing was received", 0, () -> pool.total(0));
        pool.undo();
        Check.same("after undo", 50, () -> pool.grantBack(1));
        pool.pay(0, 1);
        pool.close();
        Check.same("in the next period", 22, () -> pool.grantBack(0));
        Check.state("a second one in the next period", () -> pool.grantBack(0));
        wrongLicensees("grantBack", pool::grantBack);
        PatentPool small = Check.pool(TWO + "credit 50 1;");
        small.report(0, 0, 9);
        Check.state("the credit would be 0", () -> small.grantBack(0));
        Check.same("owed as before", 90, () -> small.owed(0));
        small.report(0, 0, 1);
        Check.same("a credit of 1", 1, () -> small.grantBack(0));
        PatentPool none = Check.pool(TWO + "credit 0 100;");
        none.report(0, 0, 9);
        Check.state("the amount is 0", () -> none.grantBack(0));
        PatentPool percent = Check.pool(TWO + "credit 9999 0;");
        percent.report(0, 0, 9);
        Check.state("the percent is 0", () -> percent.grantBack(0));
        PatentPool all = Check.pool("version 0 9999; licensee 0; credit 9999 100;");
        all.report(0, 0, 1);
        Check.same("all of it", 9999, () -> all.grantBack(0));
        all.audit(0, 0, 99999);
        Check.state("already", () -> all.grantBack(0));
        all.pay(0, 1);
        all.close();
        Check.same("a part of a large debt", 9999, () -> all.grantBack(0));
    }

    private static void promise31Pay() {
        PatentPool pool = Check.pool(TWO);
        Check.argument("nothing is owed", () -> pool.pay(0, 1));
        pool.report(0, 0, 10);
        Check.argument("too much", () -> pool.pay(0, 101));
        Check.argument("nothing", () -> pool.pay(0, 0));
        Check.argument("less than nothing", () -> pool.pay(0, -1));
        Check.argument("the least int", () -> pool.pay(0, Integer.MIN_VALUE));
        Check.argument("another licensee", () -> pool.pay(1, 1));
        Check.same("one", 99, () -> pool.pay(0, 1));
        Check.same("the rest", 0, () -> pool.pay(0, 99));
        Check.same("received", 100, () -> pool.total(0));
        Check.same("owed", 0, () -> pool.owed(0));
        wrongLicensees("pay", number -> pool.pay(number, 0));
        PatentPool large = Check.pool("version 0 9999; licensee 0; penalty 400;");
        large.audit(0, 0, 99999);
        Check.same("the largest payment", 99999L * 9999 * 5 - Integer.MAX_VALUE,
                () -> large.pay(0, Integer.MAX_VALUE));
    }

    private static void promise32Audit() {
        PatentPool pool = Check.pool(TWO + "penalty 33;");
        pool.report(1, 0, 10);
        Check.same("the difference and a penalty", 7 + 2, () -> pool.audit(1, 0, 11));
        Check.same("owed", 75 + 9, () -> pool.owed(1));
        Check.same("reported", 11, () -> pool.reported(1, 0));
        Check.same("the same number", 0, () -> pool.audit(1, 0, 11));
        Check.same("a smaller number", 0, () -> pool.audit(1, 0, 0));
        Check.same("still reported", 11, () -> pool.reported(1, 0));
        Check.same("still owed", 84, () -> pool.owed(1));
        Check.same("audits are changes", 3, pool::undo);
        Check.same("audits are changes too", 2, pool::undo);
        Check.same("a version that is not released", 33 * 9 + 33 * 9 * 33 / 100, () -> pool.audit(0, 1, 9));
        Check.same("all is off", 0, () -> pool.audit(2, 0, 50));
        Check.same("all is off, but reported", 50, () -> pool.reported(2, 0));
        pool.pay(0, 1);
        pool.close();
        Check.same("the next period", 75 + 24, () -> pool.audit(1, 0, 10));
        PatentPool none = Check.pool(TWO + "penalty 0;");
        Check.same("no penalty", 50, () -> none.audit(0, 0, 5));
        PatentPool large = Check.pool("version 0 9999; licensee 0; penalty 400;");
        Check.same("the largest", 99999L * 9999 * 5, () -> large.audit(0, 0, 99999));
    }

    private static void promise32Wrong() {
        PatentPool pool = Check.pool(TWO);
        wrongLicensees("audit", number -> pool.audit(number, 0, -1));
        Check.index("no such version", () -> pool.audit(0, 2, -1));
        Check.index("below all versions", () -> pool.audit(0, -1, 100000));
        Check.argument("too many", () -> pool.audit(0, 0, 100000));
        Check.argument("too few", () -> pool.audit(0, 0, -1));
        Check.argument("the least int", () -> pool.audit(0, 0, Integer.MIN_VALUE));
        Check.same("no change to undo", -1, pool::undo);
        Check.same("the least number", 0, () -> pool.audit(0, 0, 0));
        Check.same("it is a change", 0, pool::undo);
    }

    private static void promise33Close() {
        PatentPool pool = Check.pool(TWO + "costs 7; reserve 3; cap 45;");
        Check.state("nothing was received", pool::close);
        pool.report(0, 0, 100);
        Check.state("a report is no payment", pool::close);
        pool.pay(0, 99);
        Check.same("shared", 40 + 40, pool::close);
        Check.same("costs", 6, () -> pool.total(1));
        Check.same("reserve", 2 + 11, () -> pool.total(2));
        Check.same("account", 40, () -> pool.account(0));
        Check.same("period", 1, pool::period);
        Check.same("received", 0, () -> pool.total(0));
        Check.state("nothing was received in the new period", pool::close);
        Check.same("the state is as before", 1, pool::period);
        pool.undo();
        Check.same("undone: period", 0, pool::period);
        Check.same("undone: received", 99, () -> pool.total(0));
        Check.same("undone: reported", 100, () -> pool.reported(0, 0));
        Check.same("undone: reserve", 0, () -> pool.total(2));
        PatentPool nobody = Check.pool("version 0 10; licensee 0;");
        nobody.report(0, 0, 10);
        nobody.pay(0, 100);
        Check.same("no members", 0, nobody::close);
        Check.same("no members: reserve", 90, () -> nobody.total(2));
        PatentPool cent = Check.pool(TWO + "costs 50; reserve 40;");
        cent.report(0, 0, 1);
        cent.pay(0, 1);
        Check.same("one cent", 1, cent::close);
        Check.same("one cent: account", 1, () -> cent.account(0));
        PatentPool later = Check.pool("member 3; member 0; version 0 10; licensee 0; weight 5;");
        later.report(0, 0, 10);
        later.pay(0, 100);
        Check.same("a member has not joined", 85, later::close);
        Check.same("a member has not joined: account", 85, () -> later.account(1));
    }

    private static void promise33LargeAmounts() {
        PatentPool pool = Check.pool("member 0; member 0; member 0; version 0 9999; version 0 9999;"
                + "version 0 9999; version 0 9999; licensee 0; licensee 0; licensee 0; licensee 0; licensee 0;"
                + "licensee 0; penalty 400; costs 0; reserve 0; weight 9999*9999;");
        long owed = 0;
        for (int number = 0; number < 24; number++) {
            owed += pool.audit(number / 4, number % 4, 99999);
        }
        Check.same("all debts", 24L * 5 * 99999 * 9999, () -> sumOfDebts(pool));
        for (int licensee = 0; licensee < 6; licensee++) {
            while (pool.owed(licensee) > 0) {
                pool.pay(licensee, (int) Math.min(pool.owed(licensee), Integer.MAX_VALUE));
            }
        }
        long all = owed;
        Check.same("received", all, () -> pool.total(0));
        Check.same("shared", all, pool::close);
        Check.same("a third", all / 3, () -> pool.account(2));
        Check.same("a third is paid out", all / 3, () -> pool.payOut(2));
        Check.same("a third is paid out: total", all / 3, () -> pool.total(4));
    }

    private static long sumOfDebts(PatentPool pool) {
        long sum = 0;
        for (int licensee = 0; licensee < pool.size(3); licensee++) {
            sum += pool.owed(licensee);
        }
        return sum;
    }

    private static void promise34PayOut() {
        PatentPool pool = Check.pool(TWO + "costs 0; reserve 0;");
        Check.state("an empty account", () -> pool.payOut(0));
        pool.report(0, 0, 10);
        pool.pay(0, 99);
        pool.close();
        Check.same("the account", 50, () -> pool.payOut(0));
        Check.state("an empty account again", () -> pool.payOut(0));
        Check.same("the account of the other", 49, () -> pool.payOut(1));
        Check.same("paid out", 99, () -> pool.total(4));
        pool.undo();
        Check.same("undone", 49, () -> pool.account(1));
        Check.same("undone: total", 50, () -> pool.total(4));
        wrongMembers("payOut", pool::payOut);
    }
}
