/** Promises 8 to 12: decisions, voters, votes that are missing, what counts, what expires first. */
public final class DecisionTest {
    public static void main(String[] args) {
        promise8Decision();
        promise8EveryQuorum();
        promise9Voters();
        promise10VotesNeeded();
        promise10EveryQuorum();
        promise11Counts();
        promise12FirstToExpire();
        wrongNumbers();
        Check.end();
    }

    private static void promise8Decision() {
        PatentPool pool = Check.pool("member 0; version 0 1; version 0 1; patent 0 9; patent 0 9;"
                + "quorum 3 67;");
        Check.votes(pool, 1, 0, 2, 0);
        Check.same("two of three votes", 0, () -> pool.decision(1, 0));
        pool.vote(2, 1, 0, false);
        Check.same("2 of 3 is less than 67 percent", 2, () -> pool.decision(1, 0));
        pool.vote(2, 1, 0, true);
        Check.same("3 of 3", 1, () -> pool.decision(1, 0));
        pool.vote(3, 1, 0, false);
        Check.same("3 of 4", 1, () -> pool.decision(1, 0));
        pool.vote(4, 1, 0, false);
        Check.same("3 of 5", 2, () -> pool.decision(1, 0));
        Check.same("another patent", 0, () -> pool.decision(0, 0));
        Check.same("another version", 0, () -> pool.decision(1, 1));
        pool.advance(100);
        Check.same("a decision outlives the patent", 2, () -> pool.decision(1, 0));
    }

    private static void promise8EveryQuorum() {
        for (int votes = 1; votes <= 5; votes++) {
            for (int percent : new int[] {1, 19, 20, 21, 25, 33, 34, 40, 50, 51, 60, 66, 67, 75, 80, 100}) {
                PatentPool pool = Check.pool("member 0; version 0 1; patent 0 9; quorum " + votes + " "
                        + percent + ";");
                for (int yes = 0; yes <= 5; yes++) {
                    for (int no = 0; yes + no <= 5; no++) {
                        Check.votes(pool, 0, 0, yes, no);
                        int cast = yes + no;
                        int due = cast < votes ? 0 : yes * 100 >= percent * cast ? 1 : 2;
                        Check.same("decision", due, () -> pool.decision(0, 0));
                        if (cast > 0) {
                            pool.reopen(0, 0);
                        }
                    }
                }
            }
        }
    }

    private static void promise9Voters() {
        PatentPool pool = Check.pool("member 0; version 0 1; version 0 1; patent 0 9; patent 0 9;");
        pool.vote(4, 1, 1, true);
        pool.vote(2, 1, 1, false);
        pool.vote(0, 1, 1, true);
        Check.same("yes", 17, () -> pool.voters(1, 1, true));
        Check.same("no", 4, () -> pool.voters(1, 1, false));
        Check.same("other patent", 0, () -> pool.voters(0, 1, true));
        Check.same("other version", 0, () -> pool.voters(1, 0, false));
        pool.vote(4, 1, 1, false);
        Check.same("yes after a new vote", 1, () -> pool.voters(1, 1, true));
        Check.same("no after a new vote", 20, () -> pool.voters(1, 1, false));
        pool.vote(1, 1, 1, true);
        pool.vote(3, 1, 1, true);
        Check.same("all others yes", 11, () -> pool.voters(1, 1, true));
    }

    private static void promise10VotesNeeded() {
        PatentPool pool = Check.pool("member 0; version 0 1; version 50 1; patent 0 9; quorum 2 75;");
        Check.same("no votes", 2, () -> pool.votesNeeded(0, 0));
        pool.vote(0, 0, 0, false);
        Check.same("one no", 3, () -> pool.votesNeeded(0, 0));
        pool.vote(1, 0, 0, true);
        Check.same("one no, one yes", 2, () -> pool.votesNeeded(0, 0));
        pool.vote(2, 0, 0, false);
        Check.same("two no, one yes", -1, () -> pool.votesNeeded(0, 0));
        pool.vote(2, 0, 0, true);
        pool.vote(3, 0, 0, true);
        Check.same("one no, three yes", 0, () -> pool.votesNeeded(0, 0));
        Check.same("a version that is not released", 2, () -> pool.votesNeeded(0, 1));
        pool.advance(9);
        Check.same("a patent that is not in force", 2, () -> pool.votesNeeded(0, 1));
    }

    private static void promise10EveryQuorum() {
        for (int votes = 1; votes <= 5; votes++) {
            for (int percent : new int[] {1, 20, 21, 40, 41, 50, 60, 61, 75, 80, 81, 100}) {
                PatentPool pool = Check.pool("member 0; version 0 1; patent 0 9; quorum " + votes + " "
                        + percent + ";");
                for (int yes = 0; yes <= 5; yes++) {
                    for (int no = 0; yes + no <= 5; no++) {
                        Check.votes(pool, 0, 0, yes, no);
                        Check.same("votesNeeded", tried(pool, yes + no), () -> pool.votesNeeded(0, 0));
                        if (yes + no > 0) {
                            pool.reopen(0, 0);
                        }
                    }
                }
            }
        }
    }

    /** Finds by voting and undoing how many yes votes are missing. */
    private static int tried(PatentPool pool, int cast) {
        int result = pool.decision(0, 0) == 1 ? 0 : -1;
        int more = 0;
        while (result == -1 && cast + more < 5) {
            more++;
            result = pool.vote(cast + more - 1, 0, 0, true) == 1 ? more : -1;
        }
        for (int time = 0; time < more; time++) {
            pool.undo();
        }
        return result;
    }

    private static void promise11Counts() {
        PatentPool pool = Check.pool("member 5; member 0; version 0 1; version 10 1; patent 0 20;"
                + "patent 1 20; quorum 1 50;");
        pool.vote(0, 0, 0, true);
        pool.vote(0, 1, 0, true);
        Check.same("before the member has joined", false, () -> pool.counts(0, 0));
        Check.same("all conditions", true, () -> pool.counts(1, 0));
        Check.same("no votes", false, () -> pool.counts(1, 1));
        pool.advance(4);
        Check.same("a day before joining", false, () -> pool.counts(0, 0));
        pool.advance(1);
        Check.same("the day of joining", true, () -> pool.counts(0, 0));
        pool.advance(14);
        Check.same("the last day in force", true, () -> pool.counts(0, 0));
        pool.vote(0, 0, 1, true);
        pool.vote(0, 1, 0, false);
        Check.same("a second version", true, () -> pool.counts(0, 1));
        Check.same("a negative decision", false, () -> pool.counts(1, 0));
        pool.advance(1);
        Check.same("the day of expiry", false, () -> pool.counts(0, 0));
        Check.same("the day of expiry, second version", false, () -> pool.counts(0, 1));
    }

    private static void promise12FirstToExpire() {
        PatentPool pool = Check.pool("member 50; member 0; member 0; patent 0 30; patent 1 1;"
                + "patent 0 20; patent 0 20; patent 0 10; patent 1 9999;");
        Check.same("the first", 4, () -> pool.firstToExpire(0));
        Check.same("another member", 1, () -> pool.firstToExpire(1));
        Check.same("no patents", -1, () -> pool.firstToExpire(2));
        pool.advance(9);
        Check.same("on its last day", 4, () -> pool.firstToExpire(0));
        Check.same("one is left", 5, () -> pool.firstToExpire(1));
        pool.advance(1);
        Check.same("the lowest of two", 2, () -> pool.firstToExpire(0));
        pool.declare(0, 20);
        pool.declare(2, 9999);
        Check.same("the lowest of three", 2, () -> pool.firstToExpire(0));
        Check.same("a declared one", 7, () -> pool.firstToExpire(2));
        pool.advance(10);
        Check.same("the last", 0, () -> pool.firstToExpire(0));
        pool.advance(10);
        Check.same("none in force", -1, () -> pool.firstToExpire(0));
    }

    private static void wrongNumbers() {
        PatentPool pool = Check.pool("member 0; version 0 1; version 0 1; patent 0 9; patent 0 9; patent 0 9;");
        int[][] wrong = {{-1, 0}, {3, 0}, {0, -1}, {0, 2}, {Integer.MIN_VALUE, 0}, {0, Integer.MAX_VALUE},
            {16, 4}};
        for (int[] pair : wrong) {
            Check.index("decision", () -> pool.decision(pair[0], pair[1]));
            Check.index("voters yes", () -> pool.voters(pair[0], pair[1], true));
            Check.index("voters no", () -> pool.voters(pair[0], pair[1], false));
            Check.index("votesNeeded", () -> pool.votesNeeded(pair[0], pair[1]));
            Check.index("counts", () -> pool.counts(pair[0], pair[1]));
        }
        for (int member : new int[] {-1, 1, 8, Integer.MAX_VALUE, Integer.MIN_VALUE}) {
            Check.index("firstToExpire", () -> pool.firstToExpire(member));
        }
        PatentPool full = Check.pool("member 0; version 0 1; version 0 1; version 0 1; version 0 1;"
                + "patent 0 9; patent 0 9;");
        full.vote(0, 1, 0, true);
        Check.index("a version beyond all is not the next patent's", () -> full.voters(0, 4, true));
    }
}
