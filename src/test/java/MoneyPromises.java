/** The sentences of promises 29 to 34: the changes that move money. */
final class MoneyPromises {
    private static final String NO_LICENSEE =
            "Throws `IndexOutOfBoundsException` if there is no such licensee (checked first)";
    private static final String NO_LICENSEE_OR_VERSION =
            "Throws `IndexOutOfBoundsException` if there is no such licensee or version (checked first)";
    private static final String ARGUMENT = "IllegalArgumentException";
    private static final String STATE = "IllegalStateException";

    private MoneyPromises() {
    }

    static void run() {
        reports();
        credits();
        payments();
        audits();
        closes();
    }

    private static void reports() {
        Sentences.of("Promise 29")
                .says("A licensee reports units of a version.", MoneyPromises::reportOfUnits)
                .says("- `units`: 1 to 9999", MoneyPromises::unitsOfReport)
                .says("Returns by how much the licensee owes more.", MoneyPromises::owesMore)
                .says(NO_LICENSEE_OR_VERSION, () -> {
                    ChangeSentences.noSuchLicenseeOrVersion((pool, one, version) -> pool.report(one, version, 0));
                    ChangeSentences.noSuchLicenseeOrVersion((pool, one, version) -> pool.report(one, version, 1));
                })
                .says("Throws `IllegalArgumentException` if units is out of range (checked second)",
                        MoneyPromises::wrongUnitsOfReport)
                .says("Throws `IllegalStateException` if the version is not released", MoneyPromises::notReleased);
    }

    private static void credits() {
        Sentences.of("Promise 30")
                .says("A licensee grants a patent back to the pool and gets a credit: the smaller one of the amount"
                        + " of credit and of owed * percent / 100 (with the percent of credit, rounded down).",
                        MoneyPromises::smallerOne)
                .says("The licensee owes less by it.", MoneyPromises::owesLess)
                .says("Returns the credit.", MoneyPromises::creditOfLargeDebt)
                .says(NO_LICENSEE, () -> ChangeSentences.noSuchLicensee(PatentPool::grantBack))
                .says("Throws `IllegalStateException` if the licensee has got a credit in the present period already,"
                        + " or the credit would be 0", MoneyPromises::noCredit);
    }

    private static void payments() {
        Sentences.of("Promise 31")
                .says("A licensee pays.", MoneyPromises::pays)
                .says("- `amount`: 1 to what the licensee owes", MoneyPromises::amountOfPayment)
                .says("Returns what the licensee owes then.", MoneyPromises::owesThen)
                .says(NO_LICENSEE, () -> {
                    ChangeSentences.noSuchLicensee((pool, licensee) -> pool.pay(licensee, 0));
                    ChangeSentences.noSuchLicensee((pool, licensee) -> pool.pay(licensee, 1));
                })
                .says("Throws `IllegalArgumentException` if amount is out of range", MoneyPromises::wrongPayments);
    }

    private static void audits() {
        Sentences.of("Promise 32")
                .says("Audits what a licensee has reported for a version in the present period.",
                        MoneyPromises::auditOfPeriod)
                .says("If the true number of units is greater, the licensee owes more: the royalty of the difference,"
                        + " computed as for a report, and this royalty times penalty / 100, rounded down; and the"
                        + " true number becomes the reported one.", MoneyPromises::trueNumber)
                .says("- `units`: the true number, 0 to 99999", MoneyPromises::unitsOfAudit)
                .says("Returns by how much the licensee owes more, 0 if the true number is not greater (it is a"
                        + " change also then).", MoneyPromises::notGreater)
                .says(NO_LICENSEE_OR_VERSION, () -> {
                    ChangeSentences.noSuchLicenseeOrVersion((pool, one, version) -> pool.audit(one, version, -1));
                    ChangeSentences.noSuchLicenseeOrVersion((pool, one, version) -> pool.audit(one, version, 1));
                })
                .says("Throws `IllegalArgumentException` if units is out of range",
                        MoneyPromises::wrongUnitsOfAudit);
    }

    private static void closes() {
        Sentences.of("Promise 33")
                .says("Closes the period (see MONEY).", MoneyPromises::closedPeriod)
                .says("Returns what was shared among the members, without what went to the reserve.",
                        MoneyPromises::sharedAtClose)
                .says("Throws `IllegalStateException` if nothing was received in the period",
                        MoneyPromises::nothingReceived);
        Sentences.of("Promise 34")
                .says("Pays the account of a member out.", MoneyPromises::paidOut)
                .says("Returns the amount; the account is 0 then.", MoneyPromises::emptyThen)
                .says("Throws `IndexOutOfBoundsException` if there is no such member (checked first)",
                        () -> ChangeSentences.noSuchMember(PatentPool::payOut))
                .says("Throws `IllegalStateException` if the account is 0", MoneyPromises::emptyAccount);
    }

    private static PatentPool two(String more) {
        return Check.pool(MoneySentences.TWO + more);
    }

    // ---- report

    private static void reportOfUnits() {
        PatentPool pool = two("");
        pool.advance(5);
        pool.report(1, 1, 4);
        pool.report(1, 0, 6);
        Check.same("units of the version", 4, () -> pool.reported(1, 1));
        Check.same("units of the other version", 6, () -> pool.reported(1, 0));
        Check.same("units of another licensee", 0, () -> pool.reported(0, 1));
        Check.same("owed", 99 + 45, () -> pool.owed(1));
        Check.same("another licensee owes nothing", 0, () -> pool.owed(0));
        Check.same("nothing is received", 0, () -> pool.total(0));
    }

    private static void unitsOfReport() {
        PatentPool pool = two("");
        Check.same("1", 10, () -> pool.report(0, 0, 1));
        Check.same("9999", 99990, () -> pool.report(0, 0, 9999));
        Check.same("9999 again", 99990, () -> pool.report(0, 0, 9999));
        Check.same("their sum", 19999, () -> pool.reported(0, 0));
    }

    private static void owesMore() {
        PatentPool pool = two("");
        Check.same("no discount", 30, () -> pool.report(0, 0, 3));
        Check.same("rounded down", 7, () -> pool.report(1, 0, 1));
        Check.same("the same again", 7, () -> pool.report(1, 0, 1));
        Check.same("nothing", 0, () -> pool.report(2, 0, 9999));
        Check.same("it is a change also then", 3, pool::undo);
        PatentPool large = Check.pool("version 0 9999;licensee 0;");
        Check.same("the most", 99980001, () -> large.report(0, 0, 9999));
    }

    private static void wrongUnitsOfReport() {
        for (int units : new int[] {0, -1, 10000, Integer.MIN_VALUE, Integer.MAX_VALUE}) {
            Trace.refused(ARGUMENT, ChangeSentences::situation, pool -> pool.report(0, 0, units));
            Trace.refused(ARGUMENT, ChangeSentences::situation, pool -> pool.report(0, 1, units));
        }
    }

    private static void notReleased() {
        Trace.refused(STATE, ChangeSentences::situation, pool -> pool.report(0, 1, 1));
        Trace.refused(STATE, ChangeSentences::situation, pool -> pool.report(1, 1, 9999));
        PatentPool pool = two("");
        pool.advance(4);
        Check.state("a day before", () -> pool.report(0, 1, 1));
        pool.advance(1);
        Check.same("on its day", 33, () -> pool.report(0, 1, 1));
    }

    // ---- grantBack

    private static void credit(String rule, int units, Object due) {
        PatentPool pool = Check.pool("version 0 1;licensee 0;" + rule);
        pool.report(0, 0, units);
        Check.same(rule + " of " + units, due, () -> pool.grantBack(0));
    }

    private static void smallerOne() {
        credit("credit 50 30;", 11, 3);
        credit("credit 50 30;", 13, 3);
        credit("credit 50 30;", 14, 4);
        credit("credit 50 30;", 166, 49);
        credit("credit 50 30;", 167, 50);
        credit("credit 50 30;", 9999, 50);
        credit("credit 50 100;", 49, 49);
        credit("credit 50 100;", 50, 50);
        credit("credit 50 100;", 51, 50);
        credit("credit 9999 100;", 9999, 9999);
        credit("credit 1 1;", 100, 1);
    }

    private static void owesLess() {
        PatentPool pool = two("credit 50 30;");
        pool.report(0, 0, 11);
        pool.report(1, 0, 100);
        Check.same("the credit", 33, () -> pool.grantBack(0));
        Check.same("owes less", 77, () -> pool.owed(0));
        Check.same("another owes as before", 750, () -> pool.owed(1));
        Check.same("nothing is received", 0, () -> pool.total(0));
        Check.same("nothing is paid", 0, () -> pool.total(3));
        PatentPool all = two("credit 9999 100;");
        all.report(0, 0, 1);
        all.grantBack(0);
        Check.same("owes nothing then", 0, () -> all.owed(0));
    }

    private static void creditOfLargeDebt() {
        PatentPool pool = Check.pool("version 0 9999;licensee 0;penalty 400;credit 9999 100;");
        for (int audit = 1; audit <= 9; audit++) {
            pool.audit(0, 0, audit * 11111);
        }
        Check.same("a large debt", 9999, () -> pool.grantBack(0));
        Check.same("owed then", 99999L * 9999 * 5 - 9999, () -> pool.owed(0));
        PatentPool part = Check.pool("version 0 9999;licensee 0;penalty 400;credit 9999 1;");
        part.audit(0, 0, 60000);
        Check.same("a part of a debt above the ints", 9999, () -> part.grantBack(0));
    }

    private static void noCredit() {
        Trace.refused(STATE, ChangeSentences::situation, pool -> pool.grantBack(1));
        Trace.refused(STATE, ChangeSentences::situation, pool -> pool.grantBack(0));
        credit("credit 50 1;", 99, "throws.IllegalStateException");
        credit("credit 50 1;", 100, 1);
        credit("credit 0 100;", 100, "throws.IllegalStateException");
        credit("credit 50 0;", 9999, "throws.IllegalStateException");
        PatentPool pool = two("");
        Check.state("nothing is owed", () -> pool.grantBack(0));
        pool.report(0, 0, 100);
        pool.report(1, 0, 100);
        pool.grantBack(0);
        Check.state("a credit already", () -> pool.grantBack(0));
        Check.same("another licensee", 150, () -> pool.grantBack(1));
        pool.undo();
        Check.same("undone", 150, () -> pool.grantBack(1));
        pool.pay(0, 1);
        pool.close();
        Check.same("in the next period", 159, () -> pool.grantBack(0));
        Check.state("a second one in the next period", () -> pool.grantBack(0));
        PatentPool last = Check.pool("version 0 10;" + "licensee 0;".repeat(6));
        for (int licensee = 0; licensee < 6; licensee++) {
            last.report(licensee, 0, 10);
        }
        for (int licensee = 0; licensee < 6; licensee++) {
            int one = licensee;
            Check.same("each has a credit of its own", 20, () -> last.grantBack(one));
            Check.state("and only one", () -> last.grantBack(one));
        }
        for (int licensee = 0; licensee < 6; licensee++) {
            int one = licensee;
            Check.state("also when others have got theirs", () -> last.grantBack(one));
        }
    }

    // ---- pay

    private static void pays() {
        PatentPool pool = two("");
        pool.report(0, 0, 10);
        pool.report(1, 0, 10);
        pool.pay(0, 30);
        pool.pay(1, 5);
        Check.same("one owes less", 70, () -> pool.owed(0));
        Check.same("the other owes less", 70, () -> pool.owed(1));
        Check.same("received", 35, () -> pool.total(0));
        Check.same("everything paid", 35, () -> pool.total(3));
        pool.close();
        pool.pay(0, 1);
        Check.same("received in the next period", 1, () -> pool.total(0));
        Check.same("everything paid in both", 36, () -> pool.total(3));
    }

    private static void amountOfPayment() {
        PatentPool pool = two("");
        pool.report(0, 0, 10);
        Check.same("1", 99, () -> pool.pay(0, 1));
        Check.argument("1 more than owed", () -> pool.pay(0, 100));
        Check.same("all that is owed", 0, () -> pool.pay(0, 99));
        Check.argument("nothing is owed", () -> pool.pay(0, 1));
        PatentPool large = Check.pool("version 0 9999;licensee 0;penalty 400;");
        large.audit(0, 0, 99999);
        Check.same("the largest int", 99999L * 9999 * 5 - Integer.MAX_VALUE,
                () -> large.pay(0, Integer.MAX_VALUE));
    }

    private static void owesThen() {
        PatentPool pool = two("");
        pool.report(0, 0, 10);
        Check.same("99", 99, () -> pool.pay(0, 1));
        Check.same("1", 1, () -> pool.pay(0, 98));
        Check.same("0", 0, () -> pool.pay(0, 1));
    }

    private static void wrongPayments() {
        long owed = ChangeSentences.situation().owed(1);
        for (int amount : new int[] {0, -1, (int) owed + 1, Integer.MIN_VALUE, Integer.MAX_VALUE}) {
            Trace.refused(ARGUMENT, ChangeSentences::situation, pool -> pool.pay(1, amount));
        }
        Trace.refused(ARGUMENT, ChangeSentences::situation, pool -> pool.pay(0, 1));
        Check.same("what is owed is in range", 0, () -> ChangeSentences.situation().pay(1, (int) owed));
    }

    // ---- audit

    private static void auditOfPeriod() {
        PatentPool pool = two("penalty 0;");
        pool.report(0, 0, 10);
        Check.same("more than reported", 50, () -> pool.audit(0, 0, 15));
        pool.report(0, 0, 10);
        Check.same("as much as reported by then", 0, () -> pool.audit(0, 0, 25));
        pool.pay(0, 1);
        pool.close();
        Check.same("in the next period all are more", 250, () -> pool.audit(0, 0, 25));
        Check.same("a version that is not released", 330, () -> pool.audit(0, 1, 10));
        Check.same("another licensee", 7, () -> pool.audit(1, 0, 1));
    }

    private static void trueNumber() {
        PatentPool pool = two("penalty 33;");
        pool.report(1, 0, 10);
        Check.same("one more: 7 and 2", 9, () -> pool.audit(1, 0, 11));
        Check.same("owed", 84, () -> pool.owed(1));
        Check.same("reported", 11, () -> pool.reported(1, 0));
        Check.same("three more: 22 and 7", 29, () -> pool.audit(1, 0, 14));
        Check.same("four more: 30 and 9", 39, () -> pool.audit(1, 0, 18));
        Check.same("everything off", 0, () -> pool.audit(2, 0, 99999));
        Check.same("it is reported also then", 99999, () -> pool.reported(2, 0));
        Check.same("no penalty", 50, () -> two("penalty 0;").audit(0, 0, 5));
        Check.same("a penalty of 1 percent of 90", 90, () -> two("penalty 1;").audit(0, 0, 9));
        Check.same("a penalty of 1 percent of 100", 101, () -> two("penalty 1;").audit(0, 0, 10));
        Check.same("a penalty of 400 percent", 50, () -> two("penalty 400;").audit(0, 0, 1));
        Check.same("nothing is received", 0, () -> pool.total(0));
    }

    private static void unitsOfAudit() {
        PatentPool pool = Check.pool("version 0 9999;licensee 0;penalty 400;");
        Check.same("0", 0, () -> pool.audit(0, 0, 0));
        Check.same("1", 9999 * 5, () -> pool.audit(0, 0, 1));
        Check.same("99999", 99998L * 9999 * 5, () -> pool.audit(0, 0, 99999));
        Check.same("99999 from 0", 99999L * 9999 * 5,
                () -> Check.pool("version 0 9999;licensee 0;penalty 400;").audit(0, 0, 99999));
        Check.same("reported", 99999, () -> pool.reported(0, 0));
    }

    private static void notGreater() {
        PatentPool pool = two("");
        pool.report(0, 0, 10);
        Check.same("the same number", 0, () -> pool.audit(0, 0, 10));
        Check.same("one less", 0, () -> pool.audit(0, 0, 9));
        Check.same("none", 0, () -> pool.audit(0, 0, 0));
        Check.same("reported as before", 10, () -> pool.reported(0, 0));
        Check.same("owed as before", 100, () -> pool.owed(0));
        Check.same("it is a change: 3 left", 3, pool::undo);
        Check.same("it is a change: 2 left", 2, pool::undo);
        Check.same("it is a change: 1 left", 1, pool::undo);
        Check.same("the report", 0, pool::undo);
        Check.same("one more", 15, () -> pool.audit(0, 0, 1));
    }

    private static void wrongUnitsOfAudit() {
        for (int units : new int[] {-1, 100000, Integer.MIN_VALUE, Integer.MAX_VALUE}) {
            Trace.refused(ARGUMENT, ChangeSentences::situation, pool -> pool.audit(0, 0, units));
        }
    }

    // ---- close and payOut

    private static void closedPeriod() {
        PatentPool pool = two("costs 7;reserve 3;cap 45;");
        pool.report(0, 0, 100);
        pool.pay(0, 99);
        pool.close();
        Check.same("costs", 6, () -> pool.total(1));
        Check.same("reserve with what is above the cap", 2 + 11, () -> pool.total(2));
        Check.same("account", 40, () -> pool.account(0));
        Check.same("latest share", 40, () -> pool.latestShare(1));
        Check.same("period", 1, pool::period);
        Check.same("received", 0, () -> pool.total(0));
        Check.same("reported", 0, () -> pool.reported(0, 0));
        Check.same("owed", 901, () -> pool.owed(0));
        Check.same("the day is the same", 0, pool::today);
    }

    private static void sharedAtClose() {
        PatentPool nobody = Check.pool("version 0 10;licensee 0;");
        nobody.report(0, 0, 10);
        nobody.pay(0, 100);
        Check.same("no members", 0, nobody::close);
        PatentPool capped = two("cap 45;costs 0;reserve 0;");
        capped.report(0, 0, 10);
        capped.pay(0, 100);
        Check.same("a part", 90, capped::close);
        PatentPool all = two("costs 0;reserve 0;");
        all.report(0, 0, 10);
        all.pay(0, 100);
        Check.same("all", 100, all::close);
        PatentPool large = Check.pool("version 0 9999;licensee 0;penalty 400;member 0;weight 1;costs 0;reserve 0;");
        large.audit(0, 0, 99999);
        large.pay(0, Integer.MAX_VALUE);
        large.pay(0, Integer.MAX_VALUE);
        Check.same("more than an int", 4294967294L, large::close);
        Check.same("more than an int: account", 4294967294L, () -> large.account(0));
        Check.same("more than an int: latestShare", 4294967294L, () -> large.latestShare(0));
        Check.same("more than an int: payOut", 4294967294L, () -> large.payOut(0));
    }

    private static void nothingReceived() {
        Trace.refused(STATE, PatentPool::new, PatentPool::close);
        Trace.refused(STATE, () -> {
            PatentPool pool = ChangeSentences.situation();
            pool.close();
            return pool;
        }, PatentPool::close);
        PatentPool pool = two("");
        pool.report(0, 0, 100);
        pool.grantBack(0);
        Check.state("a report and a credit are no payments", pool::close);
        pool.pay(0, 1);
        Check.same("one cent was received", 1, pool::close);
        Check.state("nothing in the new period", pool::close);
    }

    private static PatentPool closed() {
        PatentPool pool = two("costs 0;reserve 0;");
        pool.report(0, 0, 10);
        pool.pay(0, 99);
        pool.close();
        return pool;
    }

    private static void paidOut() {
        PatentPool pool = closed();
        pool.payOut(0);
        Check.same("paid out", 50, () -> pool.total(4));
        Check.same("the other account", 49, () -> pool.account(1));
        pool.payOut(1);
        Check.same("both paid out", 99, () -> pool.total(4));
        pool.undo();
        Check.same("undone", 50, () -> pool.total(4));
        Check.same("undone: account", 49, () -> pool.account(1));
    }

    private static void emptyThen() {
        PatentPool pool = closed();
        Check.same("the amount", 50, () -> pool.payOut(0));
        Check.same("the account", 0, () -> pool.account(0));
        pool.pay(0, 1);
        pool.close();
        Check.same("one cent", 1, () -> pool.payOut(0));
    }

    private static void emptyAccount() {
        Trace.refused(STATE, ChangeSentences::situation, pool -> pool.payOut(1));
        PatentPool pool = two("");
        Check.state("at first", () -> pool.payOut(0));
        PatentPool paid = closed();
        paid.payOut(0);
        Check.state("paid out already", () -> paid.payOut(0));
        Check.same("the other is not", 49, () -> paid.payOut(1));
    }
}
