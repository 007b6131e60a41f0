/** Promises 24 to 28: days, new members, new patents, votes, reopened decisions. */
public final class ChangeTest {
    public static void main(String[] args) {
        promise24Advance();
        promise25Join();
        promise26Declare();
        promise26Wrong();
        promise27Vote();
        promise27Wrong();
        promise28Reopen();
        Check.end();
    }

    private static void promise24Advance() {
        PatentPool pool = new PatentPool();
        Check.argument("no days", () -> pool.advance(0));
        Check.argument("negative days", () -> pool.advance(-5));
        Check.argument("too many days", () -> pool.advance(10000));
        Check.argument("the largest int", () -> pool.advance(Integer.MAX_VALUE));
        Check.same("nothing has changed", 0, pool::today);
        Check.same("one day", 1, () -> pool.advance(1));
        Check.state("beyond the last day", () -> pool.advance(9999));
        Check.same("still", 1, pool::today);
        Check.same("the last day", 9999, () -> pool.advance(9998));
        Check.state("one more", () -> pool.advance(1));
        Check.argument("the argument is checked first", () -> pool.advance(0));
        Check.same("only two changes", 1, pool::undo);
        PatentPool other = new PatentPool();
        Check.same("all days at once", 9999, () -> other.advance(9999));
    }

    private static void promise25Join() {
        PatentPool pool = Check.pool("member 3; weight 5 + days;");
        pool.advance(7);
        Check.same("a new member", 1, pool::join);
        Check.same("it has joined today", 5, () -> pool.weight(1));
        pool.advance(2);
        Check.same("two days later", 7, () -> pool.weight(1));
        for (int member = 2; member < 8; member++) {
            Check.same("more members", member, pool::join);
        }
        Check.state("a ninth member", pool::join);
        Check.same("eight members", 8, () -> pool.size(0));
        pool.undo();
        Check.same("again", 7, pool::join);
        PatentPool full = Check.pool("member 0;".repeat(8));
        Check.state("a text can fill the pool", full::join);
        Check.same("no change to undo", -1, full::undo);
    }

    private static void promise26Declare() {
        PatentPool pool = Check.pool("member 0; member 9; version 0 1; patent 0 5; quorum 1 1;");
        pool.advance(3);
        Check.same("a new patent", 1, () -> pool.declare(1, 4));
        Check.same("of a member who has not joined", 1, () -> pool.firstToExpire(1));
        Check.same("a long one", 2, () -> pool.declare(0, 9999));
        pool.vote(0, 2, 0, true);
        Check.same("it counts", true, () -> pool.counts(2, 0));
        Check.same("the next", 3, () -> pool.declare(0, 4));
        Check.same("without votes", 0, () -> pool.voters(3, 0, true));
        pool.vote(0, 3, 0, true);
        pool.undo();
        pool.undo();
        Check.same("a patent after undo", 3, () -> pool.declare(0, 4));
        Check.same("a patent after undo has no votes", 0, () -> pool.voters(3, 0, true));
        pool.advance(1);
        Check.same("it is in force before its expiry", 0, () -> pool.firstToExpire(0));
        Check.same("not on its day", -1, () -> pool.firstToExpire(1));
        for (int patent = 4; patent < 16; patent++) {
            Check.same("more patents", patent, () -> pool.declare(1, 50));
        }
        Check.state("a seventeenth patent", () -> pool.declare(1, 50));
        Check.argument("expiry is checked before", () -> pool.declare(1, 4));
        Check.index("the member is checked before", () -> pool.declare(2, 4));
    }

    private static void promise26Wrong() {
        PatentPool pool = Check.pool("member 0;");
        Check.index("no such member", () -> pool.declare(1, 0));
        Check.index("below all members", () -> pool.declare(-1, 5));
        Check.argument("expiry today", () -> pool.declare(0, 0));
        Check.argument("expiry before", () -> pool.declare(0, -1));
        Check.argument("expiry too late", () -> pool.declare(0, 10000));
        Check.argument("expiry of a largest int", () -> pool.declare(0, Integer.MAX_VALUE));
        Check.same("no change to undo", -1, pool::undo);
        pool.advance(9998);
        Check.argument("expiry on the present day", () -> pool.declare(0, 9998));
        Check.same("expiry on the next day", 0, () -> pool.declare(0, 9999));
        pool.advance(1);
        Check.argument("no day is left", () -> pool.declare(0, 9999));
        Check.argument("no later day is left", () -> pool.declare(0, 10000));
    }

    private static void promise27Vote() {
        PatentPool pool = Check.pool("member 50; version 0 1; version 3 1; patent 0 5; quorum 2 60;");
        Check.same("one vote", 0, () -> pool.vote(4, 0, 0, true));
        Check.same("two votes", 2, () -> pool.vote(2, 0, 0, false));
        Check.same("three votes", 1, () -> pool.vote(0, 0, 0, true));
        Check.same("in place of a vote", 2, () -> pool.vote(0, 0, 0, false));
        Check.same("yes", 16, () -> pool.voters(0, 0, true));
        Check.same("no", 5, () -> pool.voters(0, 0, false));
        Check.same("the same again", 2, () -> pool.vote(0, 0, 0, false));
        Check.same("it is a change again", 4, pool::undo);
        pool.advance(2);
        Check.state("a day before the release", () -> pool.vote(0, 0, 1, true));
        pool.advance(1);
        Check.same("the day of the release", 0, () -> pool.vote(0, 0, 1, true));
        pool.advance(1);
        Check.same("the last day in force", 1, () -> pool.vote(1, 0, 1, true));
        pool.advance(1);
        Check.state("the day of expiry", () -> pool.vote(2, 0, 1, true));
        Check.same("nothing has changed", 3, () -> pool.voters(0, 1, true));
    }

    private static void promise27Wrong() {
        PatentPool pool = Check.pool("member 0; version 5 1; patent 0 5;");
        for (int reviewer : new int[] {-1, 5, 32, Integer.MAX_VALUE, Integer.MIN_VALUE}) {
            Check.index("no such reviewer", () -> pool.vote(reviewer, 0, 0, true));
        }
        Check.index("no such patent", () -> pool.vote(0, 1, 0, true));
        Check.index("below all patents", () -> pool.vote(0, -1, 0, true));
        Check.index("no such version", () -> pool.vote(0, 0, 1, true));
        Check.index("below all versions", () -> pool.vote(0, 0, -1, true));
        Check.state("not released", () -> pool.vote(0, 0, 0, true));
        Check.same("no change to undo", -1, pool::undo);
    }

    private static void promise28Reopen() {
        PatentPool pool = Check.pool("member 0; version 0 1; version 0 1; patent 0 5; patent 0 5;");
        Check.state("no votes", () -> pool.reopen(0, 0));
        Check.votes(pool, 0, 0, 2, 1);
        Check.votes(pool, 0, 1, 0, 2);
        Check.votes(pool, 1, 0, 4, 1);
        pool.advance(9);
        Check.same("three votes", 3, () -> pool.reopen(0, 0));
        Check.same("open again", 0, () -> pool.decision(0, 0));
        Check.same("no yes", 0, () -> pool.voters(0, 0, true));
        Check.same("no no", 0, () -> pool.voters(0, 0, false));
        Check.state("no votes again", () -> pool.reopen(0, 0));
        Check.same("another version", 3, () -> pool.voters(0, 1, false));
        Check.same("two no votes", 2, () -> pool.reopen(0, 1));
        Check.same("all votes", 5, () -> pool.reopen(1, 0));
        pool.undo();
        Check.same("undone", 15, () -> pool.voters(1, 0, true));
        Check.index("no such patent", () -> pool.reopen(2, 0));
        Check.index("below all patents", () -> pool.reopen(-1, 0));
        Check.index("no such version", () -> pool.reopen(0, 2));
        Check.index("below all versions", () -> pool.reopen(0, -1));
    }
}
