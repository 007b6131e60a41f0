import java.util.function.Function;
import java.util.function.Supplier;

/** What can be seen of a pool, also what only later calls would show. */
final class Trace {
    private Trace() {
    }

    /** Everything that can be asked about the ledger. */
    static String seen(PatentPool pool) {
        StringBuilder all = new StringBuilder();
        all.append(pool.today()).append(' ').append(pool.period()).append(' ').append(pool.smallestMajority())
                .append(' ').append(pool.largestDebtor());
        for (int what = 0; what < 5; what++) {
            all.append(" total ").append(pool.total(what));
        }
        for (int member = 0; member < pool.size(0); member++) {
            all.append(" member ").append(pool.weight(member)).append(' ').append(pool.account(member))
                    .append(' ').append(pool.latestShare(member)).append(' ').append(pool.firstToExpire(member))
                    .append(' ').append(pool.weightAfter(member, 9)).append(' ').append(pool.power(member))
                    .append(' ').append(pool.shareOf(member, 1001));
        }
        for (int version = 0; version < pool.size(1); version++) {
            for (int patent = 0; patent < pool.size(2); patent++) {
                all.append(" pair ").append(pool.voters(patent, version, true)).append(' ')
                        .append(pool.voters(patent, version, false)).append(' ')
                        .append(pool.counts(patent, version));
            }
            for (int licensee = 0; licensee < pool.size(3); licensee++) {
                all.append(" units ").append(pool.reported(licensee, version));
            }
        }
        for (int licensee = 0; licensee < pool.size(3); licensee++) {
            all.append(" owed ").append(pool.owed(licensee));
        }
        return all.toString();
    }

    /** Who can still get a credit; it uses the credits up. */
    static String credits(PatentPool pool) {
        StringBuilder all = new StringBuilder();
        for (int licensee = 0; licensee < pool.size(3); licensee++) {
            int one = licensee;
            all.append(" credit ").append(Check.outcome(() -> pool.grantBack(one)));
        }
        return all.toString();
    }

    private static String seenAfterUndo(PatentPool pool, int times) {
        StringBuilder all = new StringBuilder();
        for (int time = 0; time < times; time++) {
            all.append(pool.undo()).append(' ');
        }
        return all + seen(pool) + credits(pool);
    }

    private static String seenInSlot(PatentPool pool, int slot) {
        String day = Check.outcome(() -> pool.restoreSnapshot(slot));
        return day + " " + seen(pool) + credits(pool);
    }

    private static String seenInBuffer(PatentPool pool) {
        int length = pool.append(0x20202020, 0x20202020, 0x20202020, 0x20202020, 0x20202020);
        return pool.errorPosition() + " " + length + " " + Check.outcome(() -> pool.parse(length)) + " " + seen(pool);
    }

    /** Two ways to a situation must leave the same, history, slots and credits too. */
    static void same(String what, Supplier<PatentPool> one, Supplier<PatentPool> other) {
        for (int times = 0; times <= 11; times++) {
            int depth = times;
            Check.same(what + ", undone " + depth, seenAfterUndo(one.get(), depth),
                    () -> seenAfterUndo(other.get(), depth));
        }
        for (int slot = 0; slot < 2; slot++) {
            int number = slot;
            Check.same(what + ", slot " + number, seenInSlot(one.get(), number),
                    () -> seenInSlot(other.get(), number));
        }
    }

    /** A refused call throws what is due and leaves all as it was, the input buffer and errorPosition too. */
    static void refused(String exception, Supplier<PatentPool> situation, Function<PatentPool, Object> call) {
        Check.same("refused", "throws." + exception, () -> call.apply(situation.get()));
        Supplier<PatentPool> after = () -> {
            PatentPool pool = situation.get();
            Check.outcome(() -> call.apply(pool));
            return pool;
        };
        same("refused by " + exception, situation, after);
        Check.same("refused, buffer", seenInBuffer(situation.get()), () -> seenInBuffer(after.get()));
    }
}
