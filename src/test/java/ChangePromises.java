/** The sentences of promises 24 to 28 and 35 to 37: days, members, patents, votes, undo and snapshots. */
final class ChangePromises {
    private static final String NO_SLOT = "Throws `IndexOutOfBoundsException` if there is no such slot";
    private static final String INDEX = "IndexOutOfBoundsException";
    private static final String ARGUMENT = "IllegalArgumentException";
    private static final String STATE = "IllegalStateException";

    private ChangePromises() {
    }

    static void run() {
        days();
        membersAndPatents();
        votes();
        undoAndSnapshots();
    }

    private static void days() {
        Sentences.of("Promise 24")
                .says("Lets days pass.", ChangePromises::daysPass)
                .says("- `days`: 1 to 9999", ChangePromises::leastAndMostDays)
                .says("Returns the present day then.", ChangePromises::dayThen)
                .says("Throws `IllegalArgumentException` if days is out of range (checked first)",
                        ChangePromises::wrongDays)
                .says("Throws `IllegalStateException` if the day would be greater than 9999",
                        ChangePromises::tooLate);
    }

    private static void membersAndPatents() {
        Sentences.of("Promise 25")
                .says("A new member joins today.", ChangePromises::joinsToday)
                .says("Returns the number of the member.", ChangePromises::numberOfMember)
                .says("Throws `IllegalStateException` if there are 8 members", ChangePromises::eightMembers);
        Sentences.of("Promise 26")
                .says("A member declares a new patent.", ChangePromises::newPatent)
                .says("- `expiry`: the day of its expiry, greater than the present day, at most 9999",
                        ChangePromises::expiry)
                .says("Returns the number of the patent.", ChangePromises::numberOfPatent)
                .says("Throws `IndexOutOfBoundsException` if there is no such member (checked first)", () -> {
                    ChangeSentences.noSuchMember((pool, member) -> pool.declare(member, 9));
                    ChangeSentences.noSuchMember((pool, member) -> pool.declare(member, 0));
                })
                .says("Throws `IllegalArgumentException` if expiry is out of range (checked second)",
                        ChangePromises::wrongExpiry)
                .says("Throws `IllegalStateException` if there are 16 patents", ChangePromises::sixteenPatents);
    }

    private static void votes() {
        Sentences.of("Promise 27")
                .says("A reviewer votes, in place of an earlier vote of the reviewer on this patent and version.",
                        ChangePromises::inPlace)
                .says("- `reviewer`: 0 to 4", ChangePromises::reviewers)
                .says("Returns the decision then, as decision tells it.", ChangePromises::decisionThen)
                .says("Throws `IndexOutOfBoundsException` if there is no such reviewer, patent or version (checked"
                        + " first)", ChangePromises::noSuchVote)
                .says("Throws `IllegalStateException` if the version is not released or the patent is not in force",
                        ChangePromises::noVote);
        Sentences.of("Promise 28")
                .says("Reopens a decision: all votes on a patent and a version are removed.",
                        ChangePromises::removed)
                .says("Returns the number of votes that were removed.", ChangePromises::numberOfVotes)
                .says("Throws `IndexOutOfBoundsException` if there is no such patent or version (checked first)",
                        ChangePromises::noSuchDecision)
                .says("Throws `IllegalStateException` if there are no votes", ChangePromises::noVotes);
    }

    private static void undoAndSnapshots() {
        Sentences.of("Promise 35")
                .says("Undoes the latest change that has not been undone.", ChangePromises::latestNotUndone)
                .says("Returns the number of changes that can still be undone; NONE if there was none to undo.",
                        ChangePromises::stillUndone);
        Sentences.of("Promise 36")
                .says("Saves a snapshot in a slot, in place of an earlier one.", ChangePromises::saves)
                .says("- `slot`: 0 or 1", () -> slots(PatentPool::saveSnapshot))
                .says("Returns whether there was an earlier one.", ChangePromises::earlierOne)
                .says(NO_SLOT, () -> noSuchSlot(PatentPool::saveSnapshot));
        Sentences.of("Promise 37")
                .says("Restores the snapshot of a slot, which stays stored.", ChangePromises::staysStored)
                .says("The undo history is cleared.", ChangePromises::historyCleared)
                .says("- `slot`: 0 or 1", () -> slots(PatentPool::restoreSnapshot))
                .says("Returns the present day then.", ChangePromises::dayOfSnapshot)
                .says(NO_SLOT + " (checked first)", () -> noSuchSlot(PatentPool::restoreSnapshot))
                .says("Throws `IllegalStateException` if the slot is empty", ChangePromises::emptySlot);
    }

    // ---- advance

    private static void daysPass() {
        PatentPool pool = Check.pool("member 2;version 3 1;patent 0 4;licensee 0;weight 5;");
        pool.advance(1);
        Check.same("not joined", 0, () -> pool.weight(0));
        pool.advance(1);
        Check.same("joined", 5, () -> pool.weight(0));
        Check.state("not released", () -> pool.report(0, 0, 1));
        pool.advance(1);
        Check.same("released", 1, () -> pool.report(0, 0, 1));
        Check.same("in force", 0, () -> pool.firstToExpire(0));
        pool.advance(1);
        Check.same("not in force", -1, () -> pool.firstToExpire(0));
        Check.same("the period is the same", 0, pool::period);
        Check.same("debts are the same", 1, () -> pool.owed(0));
    }

    private static void leastAndMostDays() {
        PatentPool least = new PatentPool();
        Check.same("1", 1, () -> least.advance(1));
        Check.same("1 again", 2, () -> least.advance(1));
        Check.same("9999", 9999, () -> new PatentPool().advance(9999));
    }

    private static void dayThen() {
        PatentPool pool = new PatentPool();
        Check.same("5", 5, () -> pool.advance(5));
        Check.same("12", 12, () -> pool.advance(7));
        Check.same("9999", 9999, () -> pool.advance(9987));
        Check.same("as today tells it", 9999, pool::today);
    }

    private static PatentPool lastDay() {
        PatentPool pool = ChangeSentences.situation();
        pool.advance(9993);
        return pool;
    }

    private static void wrongDays() {
        for (int days : new int[] {0, -1, 10000, Integer.MIN_VALUE, Integer.MAX_VALUE}) {
            Trace.refused(ARGUMENT, ChangeSentences::situation, pool -> pool.advance(days));
            Trace.refused(ARGUMENT, ChangePromises::lastDay, pool -> pool.advance(days));
        }
    }

    private static void tooLate() {
        Trace.refused(STATE, ChangePromises::lastDay, pool -> pool.advance(1));
        Trace.refused(STATE, ChangePromises::lastDay, pool -> pool.advance(9999));
        Trace.refused(STATE, ChangeSentences::situation, pool -> pool.advance(9994));
        Check.same("day 9999 is not too late", 9999, () -> ChangeSentences.situation().advance(9993));
    }

    // ---- join and declare

    private static void joinsToday() {
        PatentPool pool = Check.pool("member 3;weight 5+days;");
        pool.advance(7);
        pool.join();
        Check.same("today", 5, () -> pool.weight(1));
        pool.advance(2);
        Check.same("two days later", 7, () -> pool.weight(1));
        pool.advance(9990);
        pool.join();
        Check.same("on the last day", 5, () -> pool.weight(2));
        Check.same("the others are as they were", 9999 - 3 + 5, () -> pool.weight(0));
    }

    private static void numberOfMember() {
        PatentPool pool = new PatentPool();
        for (int member = 0; member < 8; member++) {
            int due = member;
            Check.same("member", due, pool::join);
            Check.same("members", due + 1, () -> pool.size(0));
        }
        pool.undo();
        Check.same("again", 7, pool::join);
        Check.same("behind those of the text", 2, () -> Check.pool("member 9;member 0;").join());
    }

    private static void eightMembers() {
        Trace.refused(STATE, ChangeSentences::full, PatentPool::join);
        PatentPool pool = Check.pool("member 9999;".repeat(7));
        Check.same("the eighth", 7, pool::join);
        Check.state("the ninth", pool::join);
        Check.same("eight members", 8, () -> pool.size(0));
    }

    private static void newPatent() {
        PatentPool pool = Check.pool("member 0;member 9;version 0 1;patent 0 5;quorum 1 1;");
        pool.declare(1, 4);
        Check.same("it is the member's", 1, () -> pool.firstToExpire(1));
        Check.same("of no other member", 0, () -> pool.firstToExpire(0));
        Check.same("without yes votes", 0, () -> pool.voters(1, 0, true));
        Check.same("without no votes", 0, () -> pool.voters(1, 0, false));
        pool.declare(0, 9);
        pool.vote(0, 2, 0, true);
        Check.same("it counts", true, () -> pool.counts(2, 0));
        Check.same("it has weight", 1, () -> pool.weight(0));
        pool.undo();
        pool.undo();
        pool.declare(0, 9);
        Check.same("a new one has no votes of one that was undone", 0, () -> pool.voters(2, 0, true));
        PatentPool last = ChangeSentences.full();
        Check.same("the last member has all", 0, () -> last.firstToExpire(7));
    }

    private static void expiry() {
        PatentPool pool = Check.pool("member 0;");
        Check.same("the next day", 0, () -> pool.declare(0, 1));
        Check.same("day 9999", 1, () -> pool.declare(0, 9999));
        pool.advance(1);
        Check.same("not in force on its day", 1, () -> pool.firstToExpire(0));
        Check.argument("the present day", () -> pool.declare(0, 1));
        Check.same("the day after", 2, () -> pool.declare(0, 2));
        pool.advance(9997);
        Check.argument("day 9998 on it", () -> pool.declare(0, 9998));
        Check.same("day 9999 a day before", 3, () -> pool.declare(0, 9999));
        pool.advance(1);
        Check.argument("day 9999 on it", () -> pool.declare(0, 9999));
        Check.argument("day 10000", () -> pool.declare(0, 10000));
    }

    private static void numberOfPatent() {
        PatentPool pool = Check.pool("member 0;patent 0 1;");
        for (int patent = 1; patent < 16; patent++) {
            int due = patent;
            Check.same("patent", due, () -> pool.declare(0, 100 - due));
            Check.same("patents", due + 1, () -> pool.size(2));
        }
        pool.advance(1);
        Check.same("the last expires first", 15, () -> pool.firstToExpire(0));
        pool.undo();
        pool.undo();
        Check.same("again", 15, () -> pool.declare(0, 9));
    }

    private static void wrongExpiry() {
        for (int expiry : new int[] {6, 5, 0, -1, 10000, Integer.MIN_VALUE, Integer.MAX_VALUE}) {
            Trace.refused(ARGUMENT, ChangeSentences::situation, pool -> pool.declare(0, expiry));
        }
        Trace.refused(ARGUMENT, ChangeSentences::full, pool -> pool.declare(0, 1));
        Trace.refused(ARGUMENT, ChangeSentences::full, pool -> pool.declare(0, 10000));
        Trace.refused(ARGUMENT, ChangePromises::lastDay, pool -> pool.declare(0, 9999));
    }

    private static void sixteenPatents() {
        Trace.refused(STATE, ChangeSentences::full, pool -> pool.declare(0, 9));
        PatentPool pool = Check.pool("member 0;" + "patent 0 1;".repeat(15));
        pool.advance(1);
        Check.same("the 16th", 15, () -> pool.declare(0, 2));
        Check.state("the 17th, though 15 are not in force", () -> pool.declare(0, 2));
    }

    // ---- vote and reopen

    private static void inPlace() {
        PatentPool pool = Check.pool("member 0;version 0 1;version 0 1;patent 0 9;patent 0 9;quorum 2 50;");
        pool.vote(3, 0, 0, true);
        pool.vote(3, 0, 1, true);
        pool.vote(3, 1, 0, true);
        pool.vote(2, 0, 0, true);
        pool.vote(3, 0, 0, false);
        Check.same("no yes of it", 4, () -> pool.voters(0, 0, true));
        Check.same("a no of it", 8, () -> pool.voters(0, 0, false));
        Check.same("another version", 8, () -> pool.voters(0, 1, true));
        Check.same("another patent", 8, () -> pool.voters(1, 0, true));
        pool.vote(3, 0, 0, true);
        Check.same("yes again", 12, () -> pool.voters(0, 0, true));
        Check.same("no no again", 0, () -> pool.voters(0, 0, false));
        pool.vote(3, 0, 0, true);
        Check.same("the same vote twice", 12, () -> pool.voters(0, 0, true));
        Check.same("two have voted", 2, () -> pool.reopen(0, 0));
    }

    private static void reviewers() {
        PatentPool pool = Check.pool("member 0;version 0 1;patent 0 9;quorum 1 1;");
        Check.same("reviewer 0", 1, () -> pool.vote(0, 0, 0, true));
        Check.same("reviewer 4", 1, () -> pool.vote(4, 0, 0, true));
        Check.same("both", 17, () -> pool.voters(0, 0, true));
        Check.index("reviewer 5", () -> pool.vote(5, 0, 0, true));
        Check.index("reviewer -1", () -> pool.vote(-1, 0, 0, true));
    }

    private static void decisionThen() {
        PatentPool pool = Check.pool("member 50;version 0 1;patent 0 5;quorum 2 60;");
        Check.same("one vote", 0, () -> pool.vote(4, 0, 0, true));
        Check.same("1 of 2", 2, () -> pool.vote(2, 0, 0, false));
        Check.same("2 of 3", 1, () -> pool.vote(0, 0, 0, true));
        Check.same("1 of 3", 2, () -> pool.vote(0, 0, 0, false));
        Check.same("the same again", 2, () -> pool.vote(0, 0, 0, false));
        Check.same("2 of 4", 2, () -> pool.vote(1, 0, 0, true));
        Check.same("3 of 5 is 60 percent", 1, () -> pool.vote(3, 0, 0, true));
        Check.same("as decision tells it", 1, () -> pool.decision(0, 0));
    }

    private static void noSuchVote() {
        int[][] wrong = {{5, 0, 0}, {-1, 0, 0}, {32, 0, 0}, {Integer.MIN_VALUE, 0, 0}, {Integer.MAX_VALUE, 0, 0},
            {0, 3, 0}, {0, -1, 0}, {0, 16, 0}, {0, Integer.MAX_VALUE, 0}, {0, 0, 2}, {0, 0, -1}, {0, 0, 4},
            {0, 0, Integer.MIN_VALUE}, {5, 1, 0}, {5, 0, 1}, {0, 3, 1}, {0, 1, 2}};
        for (int[] vote : wrong) {
            Trace.refused(INDEX, ChangeSentences::situation, pool -> pool.vote(vote[0], vote[1], vote[2], true));
        }
        Trace.refused(INDEX, ChangeSentences::full, pool -> pool.vote(0, 0, 4, true));
        Trace.refused(INDEX, ChangeSentences::full, pool -> pool.vote(0, 16, 0, true));
        ChangeSentences.found("the last of all", () -> ChangeSentences.full().vote(4, 15, 3, true));
    }

    private static void noVote() {
        Trace.refused(STATE, ChangeSentences::situation, pool -> pool.vote(0, 0, 1, true));
        Trace.refused(STATE, ChangeSentences::situation, pool -> pool.vote(0, 1, 0, true));
        Trace.refused(STATE, ChangeSentences::situation, pool -> pool.vote(0, 1, 1, false));
        PatentPool pool = Check.pool("member 50;version 3 1;patent 0 5;");
        pool.advance(2);
        Check.state("a day before the release", () -> pool.vote(0, 0, 0, true));
        pool.advance(1);
        Check.same("the day of the release", 0, () -> pool.vote(0, 0, 0, true));
        pool.advance(1);
        Check.same("the last day in force", 0, () -> pool.vote(1, 0, 0, true));
        pool.advance(1);
        Check.state("the day of expiry", () -> pool.vote(2, 0, 0, true));
        Check.same("the votes stay", 3, () -> pool.voters(0, 0, true));
    }

    private static PatentPool voted() {
        PatentPool pool = Check.pool("member 0;version 0 1;version 0 1;patent 0 5;patent 0 5;quorum 1 1;");
        Check.votes(pool, 0, 0, 2, 1);
        Check.votes(pool, 0, 1, 0, 2);
        Check.votes(pool, 1, 0, 4, 1);
        return pool;
    }

    private static void removed() {
        PatentPool pool = voted();
        pool.reopen(0, 0);
        Check.same("open again", 0, () -> pool.decision(0, 0));
        Check.same("no yes", 0, () -> pool.voters(0, 0, true));
        Check.same("no no", 0, () -> pool.voters(0, 0, false));
        Check.same("another version", 3, () -> pool.voters(0, 1, false));
        Check.same("another patent", 15, () -> pool.voters(1, 0, true));
        Check.same("another patent, no", 16, () -> pool.voters(1, 0, false));
        pool.advance(5);
        Check.same("also when it is not in force", 2, () -> pool.reopen(0, 1));
        PatentPool last = ChangeSentences.full();
        last.vote(4, 15, 3, true);
        Check.same("the last pair", 1, () -> last.reopen(15, 3));
        Check.same("the last pair is open", 0, () -> last.voters(15, 3, true));
    }

    private static void numberOfVotes() {
        Check.same("yes and no", 3, () -> voted().reopen(0, 0));
        Check.same("no alone", 2, () -> voted().reopen(0, 1));
        Check.same("all", 5, () -> voted().reopen(1, 0));
        PatentPool one = voted();
        one.vote(4, 1, 1, true);
        one.vote(4, 1, 1, false);
        Check.same("a reviewer who has voted twice", 1, () -> one.reopen(1, 1));
    }

    private static void noSuchDecision() {
        int[][] wrong = {{3, 0}, {-1, 0}, {16, 0}, {Integer.MAX_VALUE, 0}, {0, 2}, {0, -1}, {0, 4},
            {0, Integer.MIN_VALUE}, {3, 2}};
        for (int[] pair : wrong) {
            Trace.refused(INDEX, ChangeSentences::situation, pool -> pool.reopen(pair[0], pair[1]));
        }
        Trace.refused(INDEX, ChangeSentences::full, pool -> pool.reopen(0, 4));
        Trace.refused(INDEX, ChangeSentences::full, pool -> pool.reopen(16, 0));
    }

    private static void noVotes() {
        Trace.refused(STATE, ChangeSentences::situation, pool -> pool.reopen(1, 0));
        Trace.refused(STATE, ChangeSentences::situation, pool -> pool.reopen(0, 1));
        PatentPool pool = voted();
        pool.reopen(0, 0);
        Check.state("reopened already", () -> pool.reopen(0, 0));
        pool.vote(0, 0, 0, false);
        Check.same("voted again", 1, () -> pool.reopen(0, 0));
    }

    // ---- undo

    private static void latestNotUndone() {
        PatentPool pool = new PatentPool();
        pool.advance(1);
        pool.advance(2);
        pool.advance(4);
        pool.undo();
        Check.same("the third", 3, pool::today);
        pool.advance(8);
        pool.undo();
        Check.same("the fourth", 3, pool::today);
        pool.undo();
        Check.same("the second, not the third again", 1, pool::today);
        pool.undo();
        Check.same("the first", 0, pool::today);
        pool.undo();
        Check.same("no more", 0, pool::today);
        for (int round = 0; round < 3; round++) {
            int start = pool.today();
            for (int time = 0; time < 13; time++) {
                pool.advance(1);
            }
            for (int time = 0; time < 10; time++) {
                pool.undo();
            }
            Check.same("ten of thirteen", start + 3, pool::today);
        }
    }

    private static void stillUndone() {
        PatentPool pool = new PatentPool();
        Check.same("none at first", -1, pool::undo);
        pool.advance(1);
        Check.same("0", 0, pool::undo);
        Check.same("none", -1, pool::undo);
        Check.same("none again", -1, pool::undo);
        for (int time = 0; time < 10; time++) {
            pool.advance(1);
        }
        Check.same("9 of ten", 9, pool::undo);
        pool.advance(1);
        pool.advance(1);
        Check.same("9 of eleven", 9, pool::undo);
        for (int left = 8; left >= 0; left--) {
            int due = left;
            Check.same("left", due, pool::undo);
        }
        Check.same("none in the end", -1, pool::undo);
        Check.same("the oldest stays", 1, pool::today);
    }

    // ---- snapshots

    private static void slots(ChangeSentences.Numbered call) {
        for (int slot = 0; slot < 2; slot++) {
            int one = slot;
            PatentPool pool = new PatentPool();
            pool.saveSnapshot(0);
            pool.saveSnapshot(1);
            Check.same("slot " + one, false, () -> Check.outcome(() -> call.answer(pool, one)).startsWith("throws"));
        }
        Check.index("slot 2", () -> call.answer(new PatentPool(), 2));
        Check.index("slot -1", () -> call.answer(new PatentPool(), -1));
    }

    private static void noSuchSlot(ChangeSentences.Numbered call) {
        for (int slot : new int[] {-1, 2, 3, Integer.MIN_VALUE, Integer.MAX_VALUE}) {
            Trace.refused(INDEX, ChangeSentences::situation, pool -> call.answer(pool, slot));
            Trace.refused(INDEX, PatentPool::new, pool -> call.answer(pool, slot));
        }
    }

    private static void saves() {
        PatentPool pool = new PatentPool();
        pool.saveSnapshot(1);
        pool.advance(5);
        pool.saveSnapshot(0);
        pool.advance(7);
        pool.saveSnapshot(0);
        Check.same("saving changes nothing", 12, pool::today);
        Check.same("saving is no change", 1, pool::undo);
        Check.same("the later one", 12, () -> pool.restoreSnapshot(0));
        Check.same("the other slot", 0, () -> pool.restoreSnapshot(1));
        Check.same("the later one again", 12, () -> pool.restoreSnapshot(0));
    }

    private static void earlierOne() {
        PatentPool pool = new PatentPool();
        Check.same("slot 1, the first", false, () -> pool.saveSnapshot(1));
        Check.same("slot 0, the first", false, () -> pool.saveSnapshot(0));
        Check.same("slot 1, the second", true, () -> pool.saveSnapshot(1));
        Check.same("slot 0, the second", true, () -> pool.saveSnapshot(0));
        pool.restoreSnapshot(0);
        Check.same("slot 0, after restoring", true, () -> pool.saveSnapshot(0));
        pool.parse(0);
        Check.same("slot 0, after parse", false, () -> pool.saveSnapshot(0));
        Check.same("slot 1, after parse", false, () -> pool.saveSnapshot(1));
        Check.parse(pool, "!");
        Check.same("slot 1, after a parse error", true, () -> pool.saveSnapshot(1));
    }

    private static void staysStored() {
        PatentPool pool = ChangeSentences.situation();
        pool.saveSnapshot(1);
        String before = Trace.seen(pool);
        for (int time = 0; time < 3; time++) {
            pool.advance(1);
            pool.join();
            pool.vote(4, 0, 0, false);
            pool.audit(0, 0, 50);
            pool.close();
            pool.restoreSnapshot(1);
            Check.same("as it was saved", before, () -> Trace.seen(pool));
        }
        Check.same("it is still stored", true, () -> pool.saveSnapshot(1));
    }

    private static void historyCleared() {
        PatentPool pool = new PatentPool();
        pool.advance(1);
        pool.saveSnapshot(0);
        pool.advance(1);
        pool.restoreSnapshot(0);
        Check.same("no change can be undone", -1, pool::undo);
        Check.same("the day", 1, pool::today);
        pool.advance(1);
        Check.same("a later one can", 0, pool::undo);
        Check.same("the day again", 1, pool::today);
    }

    private static void dayOfSnapshot() {
        PatentPool pool = new PatentPool();
        pool.saveSnapshot(0);
        pool.advance(9999);
        pool.saveSnapshot(1);
        Check.same("day 0", 0, () -> pool.restoreSnapshot(0));
        Check.same("day 9999", 9999, () -> pool.restoreSnapshot(1));
        Check.same("as today tells it", 9999, pool::today);
    }

    private static void emptySlot() {
        Trace.refused(STATE, ChangeSentences::situation, pool -> pool.restoreSnapshot(1));
        Trace.refused(STATE, PatentPool::new, pool -> pool.restoreSnapshot(0));
        Trace.refused(STATE, PatentPool::new, pool -> pool.restoreSnapshot(1));
        Trace.refused(STATE, () -> {
            PatentPool pool = ChangeSentences.situation();
            pool.parse(0);
            return pool;
        }, pool -> pool.restoreSnapshot(0));
    }
}
