/** The sentences of DECISIONS and of promises 8 to 12. */
final class DecisionSentences {
    private static final String NO_SUCH = "Throws `IndexOutOfBoundsException` if there is no such patent or version";
    private static final int[] PERCENTS = {1, 19, 20, 21, 25, 33, 34, 40, 41, 50, 51, 60, 61, 66, 67, 75, 80, 81,
        100};

    private DecisionSentences() {
    }

    static void run() {
        decisions();
        daysOfThings();
        answers();
        needsAndExpiry();
    }

    private static void decisions() {
        Sentences.of("DECISIONS")
                .says("There are 5 reviewers, numbered from 0.", DecisionSentences::fiveReviewers)
                .says("For each patent and each version each of them has voted yes, no, or not at all (at first).",
                        DecisionSentences::eachPair)
                .says("The decision is open if fewer reviewers have voted than the votes of quorum; otherwise, with"
                        + " v votes of which y are yes, it is positive if y * 100 >= percent * v (with the percent of"
                        + " quorum), and negative if not.", DecisionSentences::everyQuorum);
    }

    private static void daysOfThings() {
        Sentences.of("DECISIONS")
                .says("The present day is 0 at first.", DecisionSentences::firstDay)
                .says("A version is released from its day on.", DecisionSentences::released)
                .says("A patent is in force on all days before its expiry.", DecisionSentences::inForce)
                .says("A member has joined from its day on.", DecisionSentences::joined)
                .says("A patent counts for a version if the decision is positive, the version is released, the"
                        + " patent is in force, and its member has joined.", DecisionSentences::allConditions);
    }

    private static void answers() {
        Sentences.of("Promise 8")
                .says("Returns the decision about a patent and a version.", DecisionSentences::decisionOfPair)
                .says("Returns 0 open, 1 positive, 2 negative.", DecisionSentences::decisionCodes)
                .says(NO_SUCH, () -> noSuchPair(PatentPool::decision));
        Sentences.of("Promise 9")
                .says("Returns the reviewers who have voted in one way, as a bit set (bit k for reviewer k).",
                        DecisionSentences::bitOfReviewer)
                .says("- `yes`: whether those are meant who have voted yes, or no", DecisionSentences::yesOrNo)
                .says(NO_SUCH, () -> {
                    noSuchPair((pool, patent, version) -> pool.voters(patent, version, true));
                    noSuchPair((pool, patent, version) -> pool.voters(patent, version, false));
                });
    }

    private static void needsAndExpiry() {
        Sentences.of("Promise 10")
                .says("Returns how many more yes votes, by reviewers who have not voted, would make the decision"
                        + " positive if nobody else voted.", DecisionSentences::moreVotes)
                .says("Returns the smallest number, 0 if it is positive already; NONE if it cannot become positive"
                        + " in this way.", DecisionSentences::everyNeed)
                .says(NO_SUCH, () -> noSuchPair(PatentPool::votesNeeded));
        Sentences.of("Promise 11")
                .says("Returns whether a patent counts for a version.", DecisionSentences::countsOfPair)
                .says(NO_SUCH, () -> noSuchPair(PatentPool::counts));
        Sentences.of("Promise 12")
                .says("Returns the patent of a member that is in force and expires first; of several the lowest.",
                        DecisionSentences::expiresFirst)
                .says("Returns the patent; NONE if the member has no patent in force.",
                        DecisionSentences::nothingInForce)
                .says("Throws `IndexOutOfBoundsException` if there is no such member",
                        () -> ChangeSentences.noSuchMember(PatentPool::firstToExpire));
    }

    private interface OfPair {
        Object answer(PatentPool pool, int patent, int version);
    }

    /** The situation has three patents and two versions. */
    private static void noSuchPair(OfPair call) {
        int[][] wrong = {{-1, 0}, {3, 0}, {0, -1}, {0, 2}, {0, 4}, {16, 0}, {3, 2}, {Integer.MIN_VALUE, 0},
            {0, Integer.MIN_VALUE}, {Integer.MAX_VALUE, 0}, {0, Integer.MAX_VALUE}};
        for (int[] pair : wrong) {
            Trace.refused("IndexOutOfBoundsException", ChangeSentences::situation,
                    pool -> call.answer(pool, pair[0], pair[1]));
        }
        Check.same("the last pair", true, () -> call.answer(ChangeSentences.situation(), 2, 1) != null);
    }

    private static PatentPool quorum(int votes, int percent) {
        return Check.pool("member 0;version 0 1;patent 0 9;quorum " + votes + " " + percent + ";");
    }

    // ---- reviewers and decisions

    private static void fiveReviewers() {
        PatentPool pool = quorum(5, 100);
        for (int reviewer = 0; reviewer < 5; reviewer++) {
            int one = reviewer;
            Check.same("reviewer " + one, one < 4 ? 0 : 1, () -> pool.vote(one, 0, 0, true));
        }
        Check.index("reviewer 5", () -> pool.vote(5, 0, 0, true));
        Check.index("reviewer -1", () -> pool.vote(-1, 0, 0, true));
        Check.same("all five", 31, () -> pool.voters(0, 0, true));
    }

    private static void eachPair() {
        PatentPool pool = Check.pool("member 0;" + "version 0 1;".repeat(4) + "patent 0 9;".repeat(16));
        for (int pair = 0; pair < 64; pair++) {
            int one = pair;
            Check.same("yes at first", 0, () -> pool.voters(one / 4, one % 4, true));
            Check.same("no at first", 0, () -> pool.voters(one / 4, one % 4, false));
        }
        for (int pair = 0; pair < 64; pair++) {
            pool.vote(pair % 5, pair / 4, pair % 4, pair % 3 == 0);
        }
        for (int pair = 0; pair < 64; pair++) {
            int one = pair;
            int set = 1 << one % 5;
            Check.same("yes of pair " + one, one % 3 == 0 ? set : 0, () -> pool.voters(one / 4, one % 4, true));
            Check.same("no of pair " + one, one % 3 == 0 ? 0 : set, () -> pool.voters(one / 4, one % 4, false));
        }
    }

    private interface OfVotes {
        int due(int votes, int percent, int yes, int no);
    }

    /** Every quorum that can differ, with every number of yes and no votes. */
    private static void everyVote(OfPair asked, OfVotes rule) {
        for (int votes = 1; votes <= 5; votes++) {
            for (int percent : PERCENTS) {
                PatentPool pool = quorum(votes, percent);
                for (int yes = 0; yes <= 5; yes++) {
                    for (int no = 0; yes + no <= 5; no++) {
                        Check.votes(pool, 0, 0, yes, no);
                        Check.same(yes + " yes, " + no + " no, quorum " + votes + " " + percent,
                                rule.due(votes, percent, yes, no), () -> asked.answer(pool, 0, 0));
                        if (yes + no > 0) {
                            pool.reopen(0, 0);
                        }
                    }
                }
            }
        }
    }

    private static void everyQuorum() {
        everyVote(PatentPool::decision, (votes, percent, yes, no) ->
                yes + no < votes ? 0 : yes * 100 >= percent * (yes + no) ? 1 : 2);
    }

    // ---- days

    private static void firstDay() {
        Check.same("a new object", 0, () -> new PatentPool().today());
        PatentPool pool = Check.pool("member 0;member 1;version 0 1;version 1 1;patent 0 1;licensee 0;weight 5;");
        Check.same("a text", 0, pool::today);
        Check.same("joined on day 0", 5, () -> pool.weight(0));
        Check.same("not joined on day 0", 0, () -> pool.weight(1));
        Check.same("released on day 0", 1, () -> pool.report(0, 0, 1));
        Check.state("not released on day 0", () -> pool.report(0, 1, 1));
        Check.same("in force on day 0", 0, () -> pool.vote(0, 0, 0, true));
    }

    private static void released() {
        PatentPool pool = Check.pool("member 0;version 3 1;patent 0 9999;licensee 0;quorum 1 1;");
        for (int day = 0; day < 3; day++) {
            Check.state("before its day, report", () -> pool.report(0, 0, 1));
            Check.state("before its day, vote", () -> pool.vote(0, 0, 0, true));
            pool.advance(1);
        }
        Check.same("on its day, report", 1, () -> pool.report(0, 0, 1));
        Check.same("on its day, vote", 1, () -> pool.vote(0, 0, 0, true));
        Check.same("on its day, counts", true, () -> pool.counts(0, 0));
        pool.advance(9995);
        Check.same("later, report", 1, () -> pool.report(0, 0, 1));
        Check.same("later, vote", 1, () -> pool.vote(1, 0, 0, true));
        Check.same("later, counts", true, () -> pool.counts(0, 0));
    }

    private static void inForce() {
        PatentPool pool = Check.pool("member 0;version 0 1;patent 0 3;quorum 1 1;");
        for (int day = 0; day < 3; day++) {
            int reviewer = day;
            Check.same("before its expiry, vote", 1, () -> pool.vote(reviewer, 0, 0, true));
            Check.same("before its expiry, counts", true, () -> pool.counts(0, 0));
            Check.same("before its expiry, first", 0, () -> pool.firstToExpire(0));
            pool.advance(1);
        }
        Check.state("on its expiry, vote", () -> pool.vote(3, 0, 0, true));
        Check.same("on its expiry, counts", false, () -> pool.counts(0, 0));
        Check.same("on its expiry, first", -1, () -> pool.firstToExpire(0));
        pool.advance(9996);
        Check.state("later, vote", () -> pool.vote(3, 0, 0, true));
        Check.same("later, counts", false, () -> pool.counts(0, 0));
    }

    private static void joined() {
        PatentPool pool = Check.pool("member 3;version 0 1;patent 0 9999;quorum 1 1;weight 7;");
        pool.vote(0, 0, 0, true);
        for (int day = 0; day < 3; day++) {
            Check.same("before its day, counts", false, () -> pool.counts(0, 0));
            Check.same("before its day, weight", 0, () -> pool.weight(0));
            pool.advance(1);
        }
        Check.same("on its day, counts", true, () -> pool.counts(0, 0));
        Check.same("on its day, weight", 7, () -> pool.weight(0));
        pool.advance(9995);
        Check.same("later, counts", true, () -> pool.counts(0, 0));
        Check.same("later, weight", 7, () -> pool.weight(0));
    }

    private static void allConditions() {
        PatentPool pool = Check.pool("member 0;member 5;version 0 1;version 2 1;patent 0 4;patent 1 9;quorum 2 50;");
        Check.same("no vote", false, () -> pool.counts(0, 0));
        pool.vote(0, 0, 0, true);
        Check.same("an open decision", false, () -> pool.counts(0, 0));
        pool.vote(1, 0, 0, false);
        Check.same("a positive decision", true, () -> pool.counts(0, 0));
        pool.vote(2, 0, 0, false);
        Check.same("a negative decision", false, () -> pool.counts(0, 0));
        pool.vote(2, 0, 0, true);
        Check.same("another version", false, () -> pool.counts(0, 1));
        Check.votes(pool, 1, 0, 2, 0);
        Check.same("a member who has not joined", false, () -> pool.counts(1, 0));
        pool.advance(3);
        Check.same("all conditions", true, () -> pool.counts(0, 0));
        pool.advance(1);
        Check.same("a patent that is not in force", false, () -> pool.counts(0, 0));
        Check.same("its decision is still positive", 1, () -> pool.decision(0, 0));
        pool.advance(1);
        Check.same("a member who has joined", true, () -> pool.counts(1, 0));
    }

    // ---- promises 8 to 11

    private static void decisionOfPair() {
        PatentPool pool = Check.pool("member 9999;" + "version 0 1;".repeat(4) + "patent 0 5;".repeat(16)
                + "quorum 1 1;");
        pool.vote(0, 15, 3, true);
        pool.vote(0, 15, 0, false);
        pool.vote(0, 0, 3, false);
        Check.same("the last pair", 1, () -> pool.decision(15, 3));
        Check.same("its patent, another version", 2, () -> pool.decision(15, 0));
        Check.same("its version, another patent", 2, () -> pool.decision(0, 3));
        Check.same("a pair without votes", 0, () -> pool.decision(14, 3));
        pool.advance(9998);
        Check.same("after the expiry, before joining", 1, () -> pool.decision(15, 3));
        pool.reopen(15, 3);
        Check.same("reopened", 0, () -> pool.decision(15, 3));
    }

    private static void decisionCodes() {
        PatentPool pool = quorum(2, 50);
        Check.same("no votes", 0, () -> pool.decision(0, 0));
        pool.vote(0, 0, 0, true);
        Check.same("too few votes", 0, () -> pool.decision(0, 0));
        pool.vote(1, 0, 0, false);
        Check.same("1 of 2 is 50 percent", 1, () -> pool.decision(0, 0));
        pool.vote(2, 0, 0, false);
        Check.same("1 of 3", 2, () -> pool.decision(0, 0));
        pool.vote(0, 0, 0, false);
        Check.same("0 of 3", 2, () -> pool.decision(0, 0));
    }

    private static void bitOfReviewer() {
        for (int reviewer = 0; reviewer < 5; reviewer++) {
            int one = reviewer;
            PatentPool pool = quorum(1, 1);
            pool.vote(one, 0, 0, true);
            Check.same("yes of " + one, 1 << one, () -> pool.voters(0, 0, true));
            pool.vote(one, 0, 0, false);
            Check.same("no of " + one, 1 << one, () -> pool.voters(0, 0, false));
        }
        PatentPool all = quorum(1, 1);
        Check.same("nobody", 0, () -> all.voters(0, 0, true));
        Check.votes(all, 0, 0, 5, 0);
        Check.same("all", 31, () -> all.voters(0, 0, true));
    }

    private static void yesOrNo() {
        PatentPool pool = quorum(1, 1);
        pool.vote(0, 0, 0, true);
        pool.vote(2, 0, 0, false);
        pool.vote(4, 0, 0, true);
        Check.same("yes", 17, () -> pool.voters(0, 0, true));
        Check.same("no", 4, () -> pool.voters(0, 0, false));
        pool.vote(0, 0, 0, false);
        Check.same("yes later", 16, () -> pool.voters(0, 0, true));
        Check.same("no later", 5, () -> pool.voters(0, 0, false));
    }

    private static void moreVotes() {
        PatentPool pool = Check.pool("member 0;version 0 1;version 50 1;patent 0 9;quorum 2 75;");
        Check.same("no votes", 2, () -> pool.votesNeeded(0, 0));
        pool.vote(0, 0, 0, false);
        Check.same("one no", 3, () -> pool.votesNeeded(0, 0));
        pool.vote(1, 0, 0, true);
        Check.same("one no, one yes", 2, () -> pool.votesNeeded(0, 0));
        pool.vote(2, 0, 0, false);
        Check.same("two no, one yes", -1, () -> pool.votesNeeded(0, 0));
        pool.vote(0, 0, 0, true);
        Check.same("one no, two yes", 1, () -> pool.votesNeeded(0, 0));
        pool.vote(2, 0, 0, true);
        Check.same("three yes", 0, () -> pool.votesNeeded(0, 0));
        Check.same("a version that is not released", 2, () -> pool.votesNeeded(0, 1));
        pool.advance(9);
        Check.same("a patent that is not in force", 2, () -> pool.votesNeeded(0, 1));
    }

    private static void everyNeed() {
        everyVote(PatentPool::votesNeeded, DecisionSentences::needed);
    }

    private static int needed(int votes, int percent, int yes, int no) {
        int more = 0;
        while (yes + more + no < votes || (yes + more) * 100 < percent * (yes + more + no)) {
            more++;
            if (yes + more + no > 5) {
                return -1;
            }
        }
        return more;
    }

    private static void countsOfPair() {
        PatentPool pool = Check.pool("member 0;" + "version 0 1;".repeat(4) + "patent 0 5;".repeat(16)
                + "quorum 1 1;");
        pool.vote(0, 15, 3, true);
        Check.same("the last pair", true, () -> pool.counts(15, 3));
        Check.same("another patent", false, () -> pool.counts(14, 3));
        Check.same("another version", false, () -> pool.counts(15, 2));
        pool.advance(4);
        Check.same("the last day in force", true, () -> pool.counts(15, 3));
        pool.advance(1);
        Check.same("the day of expiry", false, () -> pool.counts(15, 3));
    }

    // ---- promise 12

    private static void expiresFirst() {
        PatentPool pool = Check.pool("member 9999;member 0;patent 0 30;patent 1 1;patent 0 20;patent 0 20;"
                + "patent 0 10;patent 1 9999;");
        Check.same("the first", 4, () -> pool.firstToExpire(0));
        Check.same("of another member", 1, () -> pool.firstToExpire(1));
        pool.advance(9);
        Check.same("on its last day", 4, () -> pool.firstToExpire(0));
        Check.same("the only one in force", 5, () -> pool.firstToExpire(1));
        pool.advance(1);
        Check.same("the lowest of two", 2, () -> pool.firstToExpire(0));
        pool.declare(0, 20);
        Check.same("the lowest of three", 2, () -> pool.firstToExpire(0));
        pool.declare(0, 19);
        Check.same("a later number expires first", 7, () -> pool.firstToExpire(0));
        pool.advance(10);
        Check.same("the last one", 0, () -> pool.firstToExpire(0));
    }

    private static void nothingInForce() {
        PatentPool pool = Check.pool("member 0;member 0;patent 0 2;patent 0 1;");
        Check.same("no patents", -1, () -> pool.firstToExpire(1));
        pool.advance(1);
        Check.same("one in force", 0, () -> pool.firstToExpire(0));
        pool.advance(1);
        Check.same("none in force", -1, () -> pool.firstToExpire(0));
        pool.declare(1, 3);
        Check.same("of another member", -1, () -> pool.firstToExpire(0));
    }
}
