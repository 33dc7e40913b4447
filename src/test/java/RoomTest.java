import java.lang.management.ManagementFactory;

/** All calls of one run live in one room: what the calls make is counted. */
public final class RoomTest {
    private static final int ROUNDS = 512;
    private static final Due due = new Due();
    private static final com.sun.management.ThreadMXBean THREADS =
        (com.sun.management.ThreadMXBean) ManagementFactory.getThreadMXBean();

    private static int answers;

    public static void main(String[] args) {
        TaleBans x = full();
        // Twice, for the first time the machine itself makes something, too.
        measure(x);
        long before = made();
        measure(x);
        due.is("bytes made by questions are few", Math.max(0, made() - before - 4096), 0);

        settleAgain(x);
        before = made();
        settleAgain(x);
        long each = (made() - before) / ROUNDS;
        due.is("bytes made by a steppe of six are few", Math.max(0, each - 300), 0);

        before = made();
        for (int k = 0; k < ROUNDS; k++) {
            answers += new TaleBans().many(0);
        }
        each = (made() - before) / ROUNDS;
        due.is("bytes made by a new object are few", Math.max(0, each - 4096), 0);
        System.out.println("(the sum of answers: " + answers + ")");
        due.finish();
    }

    private static long made() {
        return THREADS.getThreadAllocatedBytes(Thread.currentThread().getId());
    }

    private static TaleBans full() {
        TaleBans x = Due.steppe("s;g50;g50;b51;h51;h32;g12");
        for (int k = 0; k < 5; k++) {
            x.tale(k, k, k);
            x.move(k, k % 3, 3 * k);
            x.need(k, 5 - k);
            x.reading(k, k, k, true);
        }
        x.law(2);
        Due.writeNumbers(x, 0, 0, 5, 5, 5, 5);
        return x;
    }

    private static void measure(TaleBans x) {
        for (int k = 0; k < ROUNDS; k++) {
            answers += x.odds(0, 39, 1) + x.fewest(0, 39) + x.longest(0, 1) + x.clash(0) + x.plan(0, 0, 0, 0, 4);
            answers += x.comes(0) + x.paid() + x.laws() + x.remembers(0, 39) + x.told(0, 39) + x.forbidden(39);
            answers += x.free(0, 0) + x.dies(0) + x.sheet(1, 2, 60) + x.copy(1, 0, 1, 1, 59) + x.tell(0) + x.greet(0);
            answers += x.undo(0) + x.back(0) + x.unmove(0) + x.tale(0, 0, 0) + x.undo(1) + x.cell(1, 0, 0);
        }
    }

    private static void settleAgain(TaleBans x) {
        for (int k = 0; k < ROUNDS; k++) {
            answers += x.steppe(3, 2, 0, 25);
        }
    }
}
