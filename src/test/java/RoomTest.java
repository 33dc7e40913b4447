import java.lang.management.ManagementFactory;
import java.util.function.Consumer;

/** All calls of one run live in one room: what as many calls as a run has make is counted, dear ones alone. */
public final class RoomTest {
    private static final int CALLS = 512;
    /** 7.3 million fields and elements, four bytes each. */
    private static final long ROOM = 4 * 7_300_000L;
    private static final Due due = new Due();
    private static final com.sun.management.ThreadMXBean THREADS =
        (com.sun.management.ThreadMXBean) ManagementFactory.getThreadMXBean();

    private static long answers;

    public static void main(String[] args) {
        fits("steppe", x -> answers += x.steppe(3, 2, 0, 25));
        fits("tale and undo", x -> answers += x.tale(0, 0, 0) + x.undo(1));
        fits("remembers", x -> answers += x.remembers(5, 39));
        fits("hearth", x -> answers += x.hearth(5, 39));
        fits("told", x -> answers += x.told(2, 39));
        fits("forbidden", x -> answers += x.forbidden(39));
        fits("dies", x -> answers += x.dies(0));
        fits("free", x -> answers += x.free(0, 0));
        fits("fewest", x -> answers += x.fewest(0, 39));
        fits("longest", x -> answers += x.longest(0, 1));
        fits("clash", x -> answers += x.clash(0));
        fits("plan", x -> answers += x.plan(0, 0, 0, 0, 40));
        fits("comes", x -> answers += x.comes(0));
        fits("paid", x -> answers += x.paid());
        fits("laws", x -> answers += x.laws());
        fits("odds", x -> answers += x.odds(0, 39, 1));
        fits("sheet", x -> answers += x.sheet(1, 2, 60));
        fits("copy", x -> answers += x.copy(0, 0, 0, 1, 59));
        fits("tell", x -> answers += x.tell(1));
        fits("a new object", x -> answers += new TaleBans().many(0));
        System.out.println("(the sum of answers: " + answers + ")");
        due.finish();
    }

    private static void fits(String name, Consumer<TaleBans> call) {
        long before = THREADS.getCurrentThreadAllocatedBytes();
        for (int made = 0; made < CALLS; made += CALLS / 2) {
            TaleBans x = full();
            for (int k = 0; k < CALLS / 2; k++) {
                call.accept(x);
            }
        }
        long bytes = THREADS.getCurrentThreadAllocatedBytes() - before;
        due.is(name + " fits, making " + bytes + " bytes in " + CALLS + " calls", bytes <= ROOM ? 1 : 0, 1);
    }

    private static TaleBans full() {
        TaleBans x = Due.steppe("s;g50;g50;b51;h51;h32;g12");
        for (int k = 0; k < 5; k++) {
            x.tale(k, k, k);
            x.move(k, k % 3, 3 * k);
            x.need(k, 5 - k);
            x.reading(k, k, k, true);
        }
        x.law(2);
        x.sheet(0, 0, 60);
        return x;
    }
}
