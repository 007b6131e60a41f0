/** Every sentence of the document that names a case, edges and refusals first, with a test of its own. */
public final class SentenceTest {
    public static void main(String[] args) {
        Sentences.of("What it is")
                .tellsNoCase(
                        "A ledger of a patent pool: members with patents, versions of a standard, reviewers who"
                                + " vote on which patents are essential, licensees who report units and pay"
                                + " royalties, credits for grant-backs, audits with penalties, and periods at whose"
                                + " end the royalties are shared by a formula with caps and reductions for late"
                                + " joiners.",
                        "It also tells about majorities, power and the future.")
                .says("An object is used for at most 512 calls after it has been made; what later calls answer is"
                        + " free.", SentenceTest::calls512);
        TextSentences.run();
        TextPromises.run();
        DecisionSentences.run();
        WeightSentences.run();
        SharingSentences.run();
        MoneySentences.run();
        MoneyPromises.run();
        ChangeSentences.run();
        ChangePromises.run();
        Sentences.of("Not promised").tellsNoCase(
                "How the state is held inside the object is free, as are the speed of each call, the text of"
                        + " toString and the behaviour of equals and hashCode.",
                "Use of one object from several threads at once is not promised to be safe.",
                "Nothing is promised beyond the answers and state changes described above, and nothing about an"
                        + " object after its 512th call.");
        Sentences.compareWithDocument();
        Check.end();
    }

    private static void calls512() {
        PatentPool days = new PatentPool();
        for (int call = 1; call <= 511; call++) {
            days.advance(1);
        }
        Check.same("the 512th call: today", 511, days::today);
        PatentPool reports = Check.pool("version 0 9999;licensee 0;");
        for (int call = 4; call <= 510; call++) {
            reports.report(0, 0, 9999);
        }
        Check.same("the 511th call: owed", 507L * 9999 * 9999, () -> reports.owed(0));
        Check.same("the 512th call: reported", 507 * 9999, () -> reports.reported(0, 0));
        PatentPool periods = Check.pool("version 0 9999;licensee 0;member 0;weight 1;");
        periods.report(0, 0, 9999);
        for (int call = 6; call <= 509; call += 2) {
            periods.pay(0, 100);
            periods.close();
        }
        Check.same("the 510th call: period", 252, periods::period);
        Check.same("the 511th call: account", 252 * 85, () -> periods.account(0));
        Check.same("the 512th call: total", 252 * 10, () -> periods.total(1));
        PatentPool undone = new PatentPool();
        for (int call = 1; call <= 510; call += 2) {
            undone.advance(9999);
            undone.undo();
        }
        Check.same("the 511th call: undo", -1, undone::undo);
        Check.same("the 512th call: today after undo", 0, undone::today);
    }
}
