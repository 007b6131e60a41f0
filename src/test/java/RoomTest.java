import java.lang.management.ManagementFactory;

/** All calls of a run live in one room, so calls must not make objects again and again. */
public final class RoomTest {
    private static final int CALLS = 512;
    private static final long MOST_BYTES_OF_OBJECT = 100_000;
    private static final long MOST_BYTES_OF_CALLS = 1_000_000;
    private static final String TEXT = "member 0;".repeat(8) + "version 0 9;".repeat(4) + "patent 0 9999;".repeat(16)
            + "licensee 0;".repeat(6) + "quorum 1 1;cap 20;weight 1" + "+days*2".repeat(25) + ";";

    private static final com.sun.management.ThreadMXBean THREADS =
            (com.sun.management.ThreadMXBean) ManagementFactory.getThreadMXBean();

    private interface Step {
        void run(PatentPool pool, int time);
    }

    public static void main(String[] args) {
        room("parse", (pool, time) -> Check.parse(pool, TEXT));
        room("parse of an error", (pool, time) -> Check.parse(pool, TEXT + "!"));
        room("parse and snapshots", (pool, time) -> {
            Check.parse(pool, TEXT);
            pool.saveSnapshot(0);
            pool.saveSnapshot(1);
        });
        room("vote", (pool, time) -> pool.vote(time % 5, time % 16, time % 4, time % 3 > 0));
        room("report and undo", (pool, time) -> {
            pool.report(time % 6, time % 4, 9999);
            pool.undo();
        });
        room("close", (pool, time) -> {
            pool.report(0, 0, 9);
            pool.pay(0, 81);
            pool.close();
        });
        room("shares and majorities", (pool, time) -> {
            pool.shareOf(time % 8, time);
            pool.smallestMajority();
            pool.power(time % 8);
            pool.weightAfter(time % 8, time);
        });
        room("snapshots", (pool, time) -> {
            pool.saveSnapshot(time % 2);
            pool.restoreSnapshot(time % 2);
        });
        Check.same("a new object", true, RoomTest::smallObject);
        Check.end();
    }

    /** The bytes that putting the text in takes in the test itself are counted too; the bounds leave room. */
    private static void room(String what, Step step) {
        PatentPool pool = Check.pool(TEXT);
        step.run(pool, 0);
        long before = THREADS.getCurrentThreadAllocatedBytes();
        for (int time = 0; time < CALLS; time++) {
            step.run(pool, time);
        }
        long used = THREADS.getCurrentThreadAllocatedBytes() - before;
        long most = what.startsWith("parse") ? 4 * MOST_BYTES_OF_CALLS : MOST_BYTES_OF_CALLS / 10;
        Check.same(what + " takes " + used, true, () -> used <= most);
    }

    private static boolean smallObject() {
        new PatentPool();
        long before = THREADS.getCurrentThreadAllocatedBytes();
        new PatentPool();
        return THREADS.getCurrentThreadAllocatedBytes() - before <= MOST_BYTES_OF_OBJECT;
    }
}
