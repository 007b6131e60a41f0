/** Promises 35 to 37: undo and snapshots. */
public final class UndoTest {
    private static final String TEXT = "member 0; member 2; version 0 10; patent 0 50; licensee 0; quorum 1 1;";

    public static void main(String[] args) {
        promise35EachChange();
        promise35HighestNumbers();
        promise35TenChanges();
        promise35WhatIsNoChange();
        promise36SaveSnapshot();
        promise37RestoreSnapshot();
        Check.end();
    }

    private static Object change(PatentPool pool, int number) {
        switch (number) {
            case 0:
                return pool.advance(3);
            case 1:
                return pool.join();
            case 2:
                return pool.declare(2, 40);
            case 3:
                return pool.vote(3, 1, 0, true);
            case 4:
                return pool.vote(3, 0, 0, false);
            case 5:
                return pool.reopen(0, 0);
            case 6:
                return pool.report(0, 0, 100);
            case 7:
                return pool.grantBack(0);
            case 8:
                return pool.pay(0, 400);
            case 9:
                return pool.audit(0, 0, 150);
            case 10:
                return pool.close();
            default:
                return pool.payOut(2);
        }
    }

    private static void promise35EachChange() {
        PatentPool pool = Check.pool(TEXT);
        for (int number = 0; number < 12; number++) {
            String before = Trace.seen(pool);
            Object answer = change(pool, number);
            String after = Trace.seen(pool);
            int left = Math.min(number, 9);
            Check.same("undo of " + number, left, pool::undo);
            Check.same("as before " + number, before, () -> Trace.seen(pool));
            int again = number;
            Check.same("again " + number, answer, () -> change(pool, again));
            Check.same("as after " + number, after, () -> Trace.seen(pool));
        }
        for (int left = 9; left >= 0; left--) {
            Check.same("undo of all", left, pool::undo);
        }
        Check.same("the rest is lost", -1, pool::undo);
        Check.same("two changes stay", 3, () -> pool.size(0));
    }

    private static void promise35HighestNumbers() {
        PatentPool pool = Check.pool("member 0;".repeat(8) + "version 0 1;".repeat(4) + "patent 7 99;".repeat(16)
                + "licensee 0;".repeat(6) + "quorum 1 1;weight 1;costs 0;");
        pool.vote(4, 15, 3, true);
        pool.vote(4, 15, 2, false);
        pool.report(5, 3, 800);
        pool.pay(5, 600);
        pool.close();
        pool.report(5, 3, 7);
        String before = Trace.seen(pool);
        pool.saveSnapshot(1);
        pool.vote(4, 15, 3, false);
        pool.vote(4, 15, 2, true);
        pool.audit(5, 3, 9);
        pool.payOut(7);
        for (int left = 9; left >= 6; left--) {
            pool.undo();
        }
        Check.same("highest numbers undone", before, () -> Trace.seen(pool));
        pool.payOut(7);
        pool.reopen(15, 3);
        pool.report(5, 3, 1);
        pool.restoreSnapshot(1);
        Check.same("highest numbers restored", before, () -> Trace.seen(pool));
    }

    private static void promise35TenChanges() {
        PatentPool pool = Check.pool(TEXT);
        Check.same("nothing to undo", -1, pool::undo);
        for (int round = 0; round < 3; round++) {
            for (int time = 0; time < 13; time++) {
                pool.advance(1);
            }
            for (int left = 9; left >= 5; left--) {
                Check.same("undo", left, pool::undo);
            }
            pool.join();
            Check.same("undo of a newer change", 5, pool::undo);
            for (int left = 4; left >= 0; left--) {
                Check.same("undo of older ones", left, pool::undo);
            }
            Check.same("none is left", -1, pool::undo);
            Check.same("none is left again", -1, pool::undo);
            int day = (round + 1) * 3;
            Check.same("the day", day, pool::today);
        }
    }

    private static void promise35WhatIsNoChange() {
        PatentPool pool = Check.pool(TEXT);
        pool.advance(1);
        pool.saveSnapshot(0);
        Trace.seen(pool);
        Check.outcome(() -> pool.pay(0, 1));
        Check.outcome(() -> pool.close());
        Check.outcome(() -> pool.advance(0));
        Check.parse(pool, "!");
        Check.same("one change", 0, pool::undo);
        Check.same("the day", 0, pool::today);
        Check.same("a snapshot outlives undo", 1, () -> pool.restoreSnapshot(0));
    }

    private static void promise36SaveSnapshot() {
        PatentPool pool = Check.pool(TEXT);
        Check.same("the first in slot 1", false, () -> pool.saveSnapshot(1));
        Check.same("the first in slot 0", false, () -> pool.saveSnapshot(0));
        pool.advance(5);
        Check.same("the second in slot 0", true, () -> pool.saveSnapshot(0));
        Check.same("saving keeps the history", 0, pool::undo);
        Check.same("the newer one", 5, () -> pool.restoreSnapshot(0));
        Check.same("the older one", 0, () -> pool.restoreSnapshot(1));
        for (int slot : new int[] {-1, 2, Integer.MAX_VALUE, Integer.MIN_VALUE}) {
            Check.index("no such slot", () -> pool.saveSnapshot(slot));
        }
        Check.parse(pool, "member 4;");
        Check.same("parse empties slot 0", false, () -> pool.saveSnapshot(0));
        Check.same("parse empties slot 1", false, () -> pool.saveSnapshot(1));
        Check.same("the second in slot 1", true, () -> pool.saveSnapshot(1));
    }

    private static void promise37RestoreSnapshot() {
        PatentPool pool = Check.pool(TEXT);
        Check.state("an empty slot", () -> pool.restoreSnapshot(0));
        Check.index("no such slot", () -> pool.restoreSnapshot(2));
        Check.index("below all slots", () -> pool.restoreSnapshot(-1));
        for (int number = 0; number < 12; number++) {
            String before = Trace.seen(pool);
            pool.saveSnapshot(0);
            Object answer = change(pool, number);
            String after = Trace.seen(pool);
            pool.saveSnapshot(1);
            int day = number == 0 ? 0 : 3;
            Check.same("restored " + number, day, () -> pool.restoreSnapshot(0));
            Check.same("as before " + number, before, () -> Trace.seen(pool));
            Check.same("no history", -1, pool::undo);
            int again = number;
            Check.same("again " + number, answer, () -> change(pool, again));
            Check.same("restored once more", day, () -> pool.restoreSnapshot(0));
            Check.same("the snapshot stays as it is " + number, before, () -> Trace.seen(pool));
            pool.restoreSnapshot(1);
            Check.same("as after " + number, after, () -> Trace.seen(pool));
        }
        pool.advance(1);
        Check.state("an empty slot of another pool", () -> Check.pool(TEXT).restoreSnapshot(1));
        Check.index("no such slot later", () -> pool.restoreSnapshot(2));
        Check.same("an exception keeps the history", 0, pool::undo);
    }
}
