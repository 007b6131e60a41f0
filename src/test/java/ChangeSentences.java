import java.util.ArrayList;
import java.util.List;
import java.util.function.Function;
import java.util.function.Supplier;

/** The sentences of CHANGES, and a situation in which much has happened, for calls that are refused. */
final class ChangeSentences {
    private static final String TEXT = "member 0;member 9990;version 0 10;version 50 10;patent 0 40;patent 0 5;"
            + "licensee 0;licensee 50;quorum 1 50;weight 1+patents;";
    private static final String INDEX = "IndexOutOfBoundsException";
    private static final String ARGUMENT = "IllegalArgumentException";
    private static final String STATE = "IllegalStateException";

    private ChangeSentences() {
    }

    static void run() {
        Sentences.of("CHANGES")
                .says("The methods from advance to payOut are changes if they succeed.",
                        ChangeSentences::eachIsChange)
                .says("The latest 10 changes can be undone, the latest first.", ChangeSentences::latestTen)
                .says("There are two snapshot slots, 0 and 1; a snapshot holds everything that changes can change.",
                        ChangeSentences::twoSlots)
                .says("A successful parse restores the initial situation (day 0, period 0, no votes, all amounts 0),"
                        + " clears the undo history and empties both slots.", ChangeSentences::parseRestores)
                .says("A method that throws an exception changes nothing.", ChangeSentences::exceptionChangesNothing)
                .says("Unless something else is said, a number of a member, version, patent, licensee, reviewer or"
                        + " slot that does not exist causes an IndexOutOfBoundsException, which is checked before any"
                        + " other exception.", ChangeSentences::indexFirst)
                .tellsNoCase("The constants:")
                .says("- `NONE = -1`: Returned if there is no result.", ChangeSentences::none)
                .tellsNoCase("The constructor and the methods follow, a promise each: the signature, then what it"
                        + " does.");
    }

    /**
     * Day 6 in period 1, with three members, two versions, three patents (the second is not in force), two
     * licensees (the second owes 390 and has had its credit), more than ten changes, a snapshot in slot 0, a
     * parse error at 4, and 20 bytes in the input buffer.
     */
    static PatentPool situation() {
        PatentPool pool = new PatentPool();
        Check.parse(pool, TEXT);
        Check.parse(pool, "cap 0;");
        pool.advance(6);
        pool.vote(0, 0, 0, true);
        pool.report(0, 0, 100);
        pool.pay(0, 1000);
        pool.close();
        pool.report(1, 0, 100);
        pool.saveSnapshot(0);
        pool.grantBack(1);
        pool.pay(1, 10);
        pool.join();
        pool.declare(2, 60);
        pool.vote(1, 2, 0, false);
        Check.put(pool, "cap 5;");
        return pool;
    }

    /** A pool with as many members, versions, patents and licensees as there can be. */
    static PatentPool full() {
        PatentPool pool = new PatentPool();
        Check.parse(pool, "member 0;".repeat(8) + "version 0 1;".repeat(4) + "patent 7 9;".repeat(16)
                + "licensee 0;".repeat(6));
        pool.advance(1);
        return pool;
    }

    // ---- numbers that do not exist in the situation

    interface Numbered {
        Object answer(PatentPool pool, int number);
    }

    interface Paired {
        Object answer(PatentPool pool, int one, int other);
    }

    static void noSuchMember(Numbered call) {
        for (int member : new int[] {-1, 3, 8, Integer.MIN_VALUE, Integer.MAX_VALUE}) {
            Trace.refused(INDEX, ChangeSentences::situation, pool -> call.answer(pool, member));
        }
        Trace.refused(INDEX, ChangeSentences::full, pool -> call.answer(pool, 8));
        Trace.refused(INDEX, PatentPool::new, pool -> call.answer(pool, 0));
        found("the last member", () -> call.answer(situation(), 2));
        found("the last of eight members", () -> call.answer(full(), 7));
    }

    static void noSuchLicensee(Numbered call) {
        for (int licensee : new int[] {-1, 2, 6, Integer.MIN_VALUE, Integer.MAX_VALUE}) {
            Trace.refused(INDEX, ChangeSentences::situation, pool -> call.answer(pool, licensee));
        }
        Trace.refused(INDEX, ChangeSentences::full, pool -> call.answer(pool, 6));
        Trace.refused(INDEX, PatentPool::new, pool -> call.answer(pool, 0));
        found("the last licensee", () -> call.answer(situation(), 1));
        found("the last of six licensees", () -> call.answer(full(), 5));
    }

    static void noSuchLicenseeOrVersion(Paired call) {
        noSuchLicensee((pool, licensee) -> call.answer(pool, licensee, 0));
        for (int version : new int[] {-1, 2, 4, Integer.MIN_VALUE, Integer.MAX_VALUE}) {
            Trace.refused(INDEX, ChangeSentences::situation, pool -> call.answer(pool, 0, version));
        }
        Trace.refused(INDEX, ChangeSentences::full, pool -> call.answer(pool, 0, 4));
        Trace.refused(INDEX, ChangeSentences::situation, pool -> call.answer(pool, 2, 2));
        found("the last version", () -> call.answer(situation(), 1, 1));
        found("the last of all pairs", () -> call.answer(full(), 5, 3));
    }

    /** The number exists, so whatever else a call may answer, it is not that exception. */
    static void found(String what, Check.Call call) {
        Check.same(what, false, () -> Check.outcome(call).equals("throws." + INDEX));
    }

    // ---- changes

    /** A situation without a history in which each change can succeed. */
    private static PatentPool ready() {
        PatentPool pool = situation();
        pool.close();
        pool.pay(1, 10);
        pool.saveSnapshot(1);
        pool.restoreSnapshot(1);
        return pool;
    }

    private static List<Function<PatentPool, Object>> changes() {
        List<Function<PatentPool, Object>> changes = new ArrayList<>();
        changes.add(pool -> pool.advance(1));
        changes.add(PatentPool::join);
        changes.add(pool -> pool.declare(0, 99));
        changes.add(pool -> pool.vote(2, 0, 0, true));
        changes.add(pool -> pool.vote(0, 0, 0, true));
        changes.add(pool -> pool.reopen(0, 0));
        changes.add(pool -> pool.report(0, 0, 1));
        changes.add(pool -> pool.grantBack(1));
        changes.add(pool -> pool.pay(1, 1));
        changes.add(pool -> pool.audit(0, 0, 1));
        changes.add(pool -> pool.audit(0, 0, 0));
        changes.add(PatentPool::close);
        changes.add(pool -> pool.payOut(0));
        return changes;
    }

    private static void eachIsChange() {
        int number = 0;
        for (Function<PatentPool, Object> change : changes()) {
            PatentPool pool = ready();
            String before = Trace.seen(pool);
            String what = "change " + number++;
            Check.same(what + " succeeds", false, () -> Check.outcome(() -> change.apply(pool)).startsWith("throws"));
            Check.same(what + " can be undone", 0, pool::undo);
            Check.same(what + " is undone", before + Trace.credits(ready()),
                    () -> Trace.seen(pool) + Trace.credits(pool));
        }
        PatentPool pool = ready();
        Trace.seen(pool);
        Check.put(pool, "member 0;");
        pool.saveSnapshot(0);
        Check.same("nothing else is a change", -1, pool::undo);
        Check.outcome(() -> pool.advance(0));
        Check.outcome(() -> pool.parse(700));
        pool.parse(1);
        Check.same("what fails is no change", -1, pool::undo);
        pool.restoreSnapshot(0);
        Check.same("restoring is no change", -1, pool::undo);
    }

    private static void latestTen() {
        for (int changes : new int[] {1, 9, 10, 11, 12, 20, 25, 101}) {
            PatentPool pool = new PatentPool();
            for (int time = 0; time < changes; time++) {
                pool.advance(1);
            }
            int most = Math.min(changes, 10);
            for (int left = most - 1; left >= 0; left--) {
                int due = left;
                int day = changes - most + left;
                Check.same(changes + " changes, left", due, pool::undo);
                Check.same(changes + " changes, day", day, pool::today);
            }
            Check.same(changes + " changes, no more", -1, pool::undo);
            Check.same(changes + " changes, the oldest stay", changes - most, pool::today);
        }
        PatentPool pool = new PatentPool();
        pool.join();
        pool.advance(5);
        pool.join();
        pool.undo();
        Check.same("the latest first: a member less", 1, () -> pool.size(0));
        Check.same("the latest first: the day stays", 5, pool::today);
        pool.advance(1);
        pool.undo();
        pool.undo();
        Check.same("then the earlier one", 0, pool::today);
        Check.same("one is left", 0, pool::undo);
        Check.same("nothing is left", 0, () -> pool.size(0));
    }

    private static void twoSlots() {
        int number = 0;
        for (Function<PatentPool, Object> change : changes()) {
            int slot = number % 2;
            PatentPool pool = ready();
            pool.saveSnapshot(slot);
            String before = Trace.seen(pool);
            change.apply(pool);
            pool.restoreSnapshot(slot);
            Check.same("change " + number++ + " is taken back", before + Trace.credits(ready()),
                    () -> Trace.seen(pool) + Trace.credits(pool));
        }
        PatentPool pool = new PatentPool();
        pool.advance(1);
        pool.saveSnapshot(0);
        pool.advance(2);
        pool.saveSnapshot(1);
        pool.advance(4);
        Check.same("slot 0", 1, () -> pool.restoreSnapshot(0));
        Check.same("slot 1", 3, () -> pool.restoreSnapshot(1));
        Check.index("no slot 2", () -> pool.saveSnapshot(2));
        Check.index("no slot -1", () -> pool.restoreSnapshot(-1));
        lastOfAll();
    }

    /** The highest number of everything is held too. */
    private static void lastOfAll() {
        Supplier<PatentPool> last = () -> {
            PatentPool pool = Check.pool("member 0;".repeat(8) + "version 0 1;".repeat(4) + "patent 7 99;".repeat(16)
                    + "licensee 0;".repeat(6) + "quorum 1 1;weight 1;costs 0;");
            pool.vote(4, 15, 3, true);
            pool.vote(4, 15, 2, false);
            pool.report(5, 3, 800);
            pool.pay(5, 600);
            pool.close();
            pool.report(5, 3, 7);
            return pool;
        };
        PatentPool pool = last.get();
        pool.saveSnapshot(1);
        pool.vote(4, 15, 3, false);
        pool.vote(4, 15, 2, true);
        pool.audit(5, 3, 9);
        pool.grantBack(5);
        pool.payOut(7);
        pool.pay(5, 1);
        pool.close();
        pool.restoreSnapshot(1);
        Check.same("the highest numbers", Trace.seen(last.get()) + Trace.credits(last.get()),
                () -> Trace.seen(pool) + Trace.credits(pool));
    }

    private static void parseRestores() {
        Supplier<PatentPool> parsed = () -> {
            PatentPool pool = situation();
            pool.saveSnapshot(1);
            pool.parse(0);
            Check.same("the text again", 0, () -> Check.parse(pool, TEXT));
            return pool;
        };
        Trace.same("as a new object with this text", () -> Check.pool(TEXT), parsed);
        PatentPool pool = parsed.get();
        Check.same("day", 0, pool::today);
        Check.same("period", 0, pool::period);
        Check.same("history", -1, pool::undo);
        Check.state("slot 0", () -> pool.restoreSnapshot(0));
        Check.state("slot 1", () -> pool.restoreSnapshot(1));
        Check.same("slot 0 has no earlier one", false, () -> pool.saveSnapshot(0));
        Check.same("slot 1 has no earlier one", false, () -> pool.saveSnapshot(1));
        Check.same("a later member is gone", 2, () -> pool.size(0));
        Check.same("a later patent is gone", 2, () -> pool.size(2));
        Check.same("votes", 0, () -> pool.voters(0, 0, true));
        Check.same("amounts", 0, () -> pool.owed(1) + pool.account(0) + pool.latestShare(0));
        for (int what = 0; what < 5; what++) {
            int kind = what;
            Check.same("total " + kind, 0, () -> pool.total(kind));
        }
    }

    private static void exceptionChangesNothing() {
        refusedWhenEmpty();
        refusedWhenFull();
        Trace.refused(ARGUMENT, ChangeSentences::situation, pool -> pool.parse(21));
        Trace.refused(ARGUMENT, ChangeSentences::situation, pool -> pool.advance(0));
        Trace.refused(STATE, ChangeSentences::situation, pool -> pool.advance(9999));
        Trace.refused(ARGUMENT, ChangeSentences::situation, pool -> pool.declare(0, 6));
        Trace.refused(STATE, ChangeSentences::situation, pool -> pool.vote(0, 1, 0, true));
        Trace.refused(STATE, ChangeSentences::situation, pool -> pool.vote(0, 0, 1, true));
        Trace.refused(STATE, ChangeSentences::situation, pool -> pool.reopen(1, 0));
        Trace.refused(ARGUMENT, ChangeSentences::situation, pool -> pool.report(0, 0, 0));
        Trace.refused(STATE, ChangeSentences::situation, pool -> pool.report(0, 1, 1));
        Trace.refused(STATE, ChangeSentences::situation, pool -> pool.grantBack(0));
        Trace.refused(STATE, ChangeSentences::situation, pool -> pool.grantBack(1));
        Trace.refused(ARGUMENT, ChangeSentences::situation, pool -> pool.pay(1, 391));
        Trace.refused(ARGUMENT, ChangeSentences::situation, pool -> pool.audit(1, 0, 100000));
        Trace.refused(STATE, ChangeSentences::situation, pool -> pool.payOut(1));
        Trace.refused(STATE, ChangeSentences::situation, pool -> pool.restoreSnapshot(1));
        Trace.refused(INDEX, ChangeSentences::situation, pool -> pool.restoreSnapshot(2));
        Trace.refused(INDEX, ChangeSentences::situation, pool -> pool.saveSnapshot(2));
    }

    private static void refusedWhenEmpty() {
        Trace.refused(ARGUMENT, PatentPool::new, pool -> pool.parse(1));
        Trace.refused(INDEX, PatentPool::new, pool -> pool.declare(0, 9));
        Trace.refused(INDEX, PatentPool::new, pool -> pool.vote(0, 0, 0, true));
        Trace.refused(INDEX, PatentPool::new, pool -> pool.reopen(0, 0));
        Trace.refused(INDEX, PatentPool::new, pool -> pool.report(0, 0, 1));
        Trace.refused(INDEX, PatentPool::new, pool -> pool.audit(0, 0, 1));
        Trace.refused(STATE, PatentPool::new, PatentPool::close);
        Trace.refused(STATE, PatentPool::new, pool -> pool.restoreSnapshot(0));
    }

    private static void refusedWhenFull() {
        Trace.refused(STATE, ChangeSentences::full, PatentPool::join);
        Trace.refused(STATE, ChangeSentences::full, pool -> pool.declare(7, 9));
        Trace.refused(STATE, ChangeSentences::full, pool -> pool.reopen(15, 3));
        Trace.refused(ARGUMENT, ChangeSentences::full, pool -> pool.pay(5, 1));
        Trace.refused(STATE, ChangeSentences::full, pool -> pool.grantBack(5));
        Trace.refused(STATE, ChangeSentences::full, pool -> pool.payOut(7));
    }

    private static void indexFirst() {
        Trace.refused(INDEX, ChangeSentences::situation, pool -> pool.weightAfter(3, 10000));
        Trace.refused(INDEX, ChangeSentences::situation, pool -> pool.shareOf(-1, -1));
        Trace.refused(INDEX, ChangeSentences::full, pool -> pool.declare(8, 9));
        Trace.refused(INDEX, ChangeSentences::full, pool -> pool.declare(8, 0));
        Trace.refused(INDEX, ChangeSentences::situation, pool -> pool.vote(5, 1, 1, true));
        Trace.refused(INDEX, ChangeSentences::situation, pool -> pool.vote(0, 3, 1, true));
        Trace.refused(INDEX, ChangeSentences::situation, pool -> pool.vote(0, 1, 2, true));
        Trace.refused(INDEX, ChangeSentences::situation, pool -> pool.reopen(1, 2));
        Trace.refused(INDEX, ChangeSentences::situation, pool -> pool.report(2, 1, 0));
        Trace.refused(INDEX, ChangeSentences::situation, pool -> pool.report(0, 2, 0));
        Trace.refused(INDEX, ChangeSentences::situation, pool -> pool.report(2, 1, 1));
        Trace.refused(INDEX, ChangeSentences::situation, pool -> pool.pay(2, 0));
        Trace.refused(INDEX, ChangeSentences::situation, pool -> pool.audit(2, 0, -1));
        Trace.refused(INDEX, ChangeSentences::situation, pool -> pool.audit(0, 2, -1));
        Trace.refused(INDEX, PatentPool::new, pool -> pool.restoreSnapshot(2));
        for (int slot : new int[] {-1, 2, Integer.MIN_VALUE, Integer.MAX_VALUE}) {
            Trace.refused(INDEX, ChangeSentences::situation, pool -> pool.saveSnapshot(slot));
        }
    }

    private static void none() {
        Check.same("the constant", -1, () -> PatentPool.NONE);
        PatentPool pool = new PatentPool();
        Check.same("errorPosition", PatentPool.NONE, pool::errorPosition);
        Check.same("smallestMajority", PatentPool.NONE, pool::smallestMajority);
        Check.same("largestDebtor", PatentPool.NONE, pool::largestDebtor);
        Check.same("undo", PatentPool.NONE, pool::undo);
        pool.join();
        Check.same("firstToExpire", PatentPool.NONE, () -> pool.firstToExpire(0));
        Check.put(pool, " ".repeat(700));
        Check.same("append", PatentPool.NONE, () -> pool.append(0, 0, 0, 0, 0));
        PatentPool votes = Check.pool("member 0;version 0 1;patent 0 9;quorum 1 100;");
        votes.vote(0, 0, 0, false);
        Check.same("votesNeeded", PatentPool.NONE, () -> votes.votesNeeded(0, 0));
    }
}
