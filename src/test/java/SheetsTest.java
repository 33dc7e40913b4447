/** Promises 28 to 38: sheets, parts. */
public final class SheetsTest {
    private static final int MIN = Integer.MIN_VALUE, MAX = Integer.MAX_VALUE;
    private static final Due due = new Due();

    public static void main(String[] args) {
        sheet();
        lose();
        put();
        cell();
        copy();
        refusedCopies();
        tell();
        greet();
        as();
        trace();
        fault();
        faultOfTheLatestCall();
        many();
        due.finish();
    }

    private static void sheet() {
        TaleBans x = new TaleBans();
        due.plain(x, "sheet(3, 2, 60)", x.sheet(3, 2, 60), 1);
        due.is("cell 59", x.cell(3, 59, 2), 0);
        due.plain(x, "put(3, 59, 7)", x.put(3, 59, 7), 1);
        due.plain(x, "sheet 4 ahead of lane", x.sheet(4, 3, 61), -1);
        due.plain(x, "sheet -1 ahead of SIZE", x.sheet(-1, 0, -1), -1);
        due.plain(x, "lane 3 ahead of SIZE", x.sheet(3, 3, -1), -2);
        due.plain(x, "lane -1", x.sheet(3, -1, 1), -2);
        due.plain(x, "61 cells", x.sheet(3, 2, 61), -2);
        due.plain(x, "the most cells", x.sheet(3, 2, MAX), -2);
        due.faulted(x, "-1 cells", x.sheet(3, 2, -1), 4);
        due.faulted(x, "the fewest cells", x.sheet(3, 2, MIN), 4);
        due.is("still there", x.cell(3, 59, 2), 7);
        due.plain(x, "a new row", x.sheet(3, 2, 60), 1);
        due.is("all 0", x.cell(3, 59, 2), 0);
        due.plain(x, "a row of none", x.sheet(3, 1, 0), 1);
        due.faulted(x, "no cell 0", x.put(3, 0, 1), 3);
        due.is("it is something", x.lose(3), 1);
    }

    private static void lose() {
        TaleBans x = new TaleBans();
        x.sheet(0, 0, 3);
        due.is("lose(0)", x.lose(0), 1);
        due.is("lose(0) again", x.lose(0), 0);
        due.is("lose(4)", x.lose(4), -1);
        due.is("lose(-1)", x.lose(-1), -1);
        due.faulted(x, "nothing", x.put(0, 0, 1), 1);
        due.is("lose(1)", x.lose(1), 0);
        due.is("lose names no FAULTS", x.fault(), 1);
    }

    private static void put() {
        TaleBans x = new TaleBans();
        x.sheet(0, 0, 3);
        due.plain(x, "put(0, 2, 5)", x.put(0, 2, 5), 1);
        due.plain(x, "sheet 4", x.put(4, 0, 0), -1);
        due.plain(x, "sheet -1", x.put(-1, 0, 0), -1);
        due.faulted(x, "NULL ahead of INDEX", x.put(1, -1, 0), 1);
        due.faulted(x, "cell 3", x.put(0, 3, 0), 3);
        due.faulted(x, "cell -1", x.put(0, -1, 0), 3);
        due.faulted(x, "the greatest cell", x.put(0, MAX, 0), 3);
        due.faulted(x, "the least cell", x.put(0, MIN, 0), 3);
        due.is("cell 2", x.cell(0, 2, 0), 5);
        due.is("cell 1", x.cell(0, 1, 0), 0);
    }

    private static void cell() {
        TaleBans x = new TaleBans();
        int[] put = {127, 128, -129, 255, 256, 32767, 32768, -32769, 65535, MAX, MIN};
        long[][] due3 = {
            {127, -128, 127, -1, 0, -1, 0, -1, -1, -1, 0},
            {127, 128, -129, 255, 256, 32767, -32768, 32767, -1, -1, 0},
            {127, 128, -129, 255, 256, 32767, 32768, -32769, 65535, MAX, MIN}};
        for (int lane = 0; lane < 3; lane++) {
            Due.writeNumbers(x, 1, lane, put);
            for (int i = 0; i < put.length; i++) {
                due.plain(x, put[i] + " in lane " + lane, x.cell(1, i, lane), due3[lane][i]);
            }
        }
        lost(x, "sheet 4", x.cell(4, 0, 2), 0);
        lost(x, "sheet -1", x.cell(-1, 0, 2), 0);
        lost(x, "lane 3", x.cell(1, -1, 3), 0);
        lost(x, "lane -1 of nothing", x.cell(0, 0, -1), 0);
        lost(x, "CAST ahead of INDEX", x.cell(1, -1, 1), 2);
        lost(x, "NULL ahead of INDEX", x.cell(0, -1, 1), 1);
        lost(x, "cell 11", x.cell(1, 11, 2), 3);
        lost(x, "cell -1", x.cell(1, -1, 2), 3);
        lost(x, "the greatest cell", x.cell(1, MAX, 2), 3);
        lost(x, "the least cell", x.cell(1, MIN, 2), 3);
    }

    private static void lost(TaleBans x, String call, long got, int fault) {
        due.is(call, got, Long.MIN_VALUE);
        due.is("fault() behind " + call, x.fault(), fault);
    }

    private static void rowIs(TaleBans x, String call, int k, int... row) {
        for (int i = 0; i < row.length; i++) {
            due.is(call + ", cell " + i, x.cell(k, i, 1), row[i]);
        }
    }

    private static void copy() {
        TaleBans x = new TaleBans();
        Due.writeNumbers(x, 0, 1, 1, 2, 3, 4, 5);
        Due.writeNumbers(x, 1, 1, 9, 8, 7);
        due.plain(x, "to another", x.copy(0, 1, 1, 0, 2), 2);
        rowIs(x, "to another", 1, 2, 3, 7);
        rowIs(x, "from it", 0, 1, 2, 3, 4, 5);
        due.plain(x, "to behind, as they were", x.copy(0, 0, 0, 1, 4), 4);
        rowIs(x, "to behind", 0, 1, 1, 2, 3, 4);
        due.plain(x, "to ahead, as they were", x.copy(0, 2, 0, 1, 3), 3);
        rowIs(x, "to ahead", 0, 1, 2, 3, 4, 4);
        due.plain(x, "all", x.copy(0, 0, 0, 0, 5), 5);
        due.plain(x, "none, at both ends", x.copy(0, 5, 1, 3, 0), 0);
        rowIs(x, "none", 1, 2, 3, 7);
    }

    private static void refusedCopies() {
        TaleBans x = new TaleBans();
        Due.writeNumbers(x, 0, 1, 1, 2, 3, 4, 5);
        Due.writeNumbers(x, 1, 1, 9, 8, 7);
        Due.writeNumbers(x, 2, 2, 6, 6);
        due.plain(x, "sheet 4", x.copy(4, 0, 3, 0, 1), -1);
        due.plain(x, "sheet -1", x.copy(-1, 0, 0, 0, 1), -1);
        due.plain(x, "other 4, ahead of NULL", x.copy(3, 0, 4, 0, 1), -1);
        due.plain(x, "other -1", x.copy(0, 0, -1, 0, 1), -1);
        due.faulted(x, "NULL: the first", x.copy(3, -1, 0, 0, 1), 1);
        due.faulted(x, "NULL: the other, ahead of INDEX", x.copy(0, -1, 3, 0, 1), 1);
        due.faulted(x, "NULL: both", x.copy(3, 0, 3, 0, 0), 1);
        due.faulted(x, "CAST ahead of INDEX", x.copy(0, -1, 2, 0, -1), 2);
        due.faulted(x, "n below 0", x.copy(0, 0, 1, 0, -1), 3);
        due.faulted(x, "i below 0", x.copy(0, -1, 1, 0, 0), 3);
        due.faulted(x, "j below 0", x.copy(0, 0, 1, -1, 0), 3);
        due.faulted(x, "i beyond", x.copy(0, 6, 1, 0, 0), 3);
        due.faulted(x, "j beyond", x.copy(0, 0, 1, 4, 0), 3);
        due.faulted(x, "n beyond the first", x.copy(0, 4, 1, 0, 2), 3);
        due.faulted(x, "n beyond the other", x.copy(0, 0, 1, 2, 2), 3);
        due.faulted(x, "the greatest i", x.copy(0, MAX, 1, 0, 1), 3);
        due.faulted(x, "the greatest j", x.copy(0, 0, 1, MAX, 1), 3);
        due.faulted(x, "the greatest n", x.copy(0, 1, 1, 1, MAX), 3);
        due.faulted(x, "the least n", x.copy(0, 1, 1, 1, MIN), 3);
        due.faulted(x, "the least i", x.copy(0, MIN, 1, 1, MAX), 3);
        rowIs(x, "unchanged", 1, 9, 8, 7);
    }

    private static void tell() {
        TaleBans x = Due.steppe("s;h30;b40;g51");
        due.is("a HERDER", x.tell(0), 3);
        due.is("its bodies", x.trace(), 1);
        x = Due.steppe("s;h30;b40;g51");
        due.is("a BARD", x.tell(1), 104);
        due.is("its bodies", x.trace(), 2 * 31 + 1);
        x = Due.steppe("s;h30;b40;g51");
        due.is("a GRANNY", x.tell(2), 110);
        due.is("its bodies", x.trace(), ((3 * 31 + 2) * 31 + 1) * 31 + 1);
        int before = x.trace();
        due.is("person 3", x.tell(3), -1);
        due.is("person -1", x.tell(-1), -1);
        due.is("the same trace", x.trace(), before);
    }

    private static void greet() {
        TaleBans x = Due.steppe("s;g51;b40;g51;h20");
        due.is("a BARD", x.greet(1), 1);
        due.is("its body", x.trace(), 4);
        due.is("a GRANNY", x.greet(2), 70);
        due.is("its body", x.trace(), 4 * 31 + 5);
        due.is("a HERDER", x.greet(3), 3);
        due.is("its body", x.trace(), (4 * 31 + 5) * 31 + 4);
        int before = x.trace();
        due.is("person 4", x.greet(4), -1);
        due.is("person -1", x.greet(-1), -1);
        due.is("the same trace", x.trace(), before);
    }

    private static void as() {
        TaleBans x = Due.steppe("s;h30;b40;g51");
        for (int p = 0; p < 3; p++) {
            for (int kind = 0; kind < 3; kind++) {
                String call = "as(" + p + ", " + kind + ")";
                if (kind <= p) {
                    due.plain(x, call, x.as(p, kind), 1);
                } else {
                    due.faulted(x, call, x.as(p, kind), 2);
                }
            }
        }
        due.plain(x, "person 3 ahead of kind", x.as(3, 3), -1);
        due.plain(x, "person -1", x.as(-1, 0), -1);
        due.plain(x, "kind 3", x.as(0, 3), -2);
        due.plain(x, "kind -1", x.as(0, -1), -2);
        due.is("no body", x.trace(), 0);
    }

    private static void trace() {
        TaleBans x = Due.steppe("s;h30;g40");
        int trace = 0;
        for (int k = 0; k < 20; k++) {
            x.tell(1);
            for (int body : new int[] {3, 2, 1, 1}) {
                trace = 31 * trace + body;
            }
            due.is("trace that wraps", x.trace(), trace);
        }
        Due.settle(x, "s;b20;h31");
        due.is("trace stays with a new steppe", x.trace(), trace);
    }

    private static void fault() {
        TaleBans x = Due.steppe("s;h30;g40");
        due.is("SIZE", x.sheet(0, 0, -1), -14);
        x.many(0);
        x.many(6);
        x.tell(0);
        x.tell(9);
        x.greet(0);
        x.tale(0, 0, 0);
        x.tale(6, 0, 0);
        x.undo(9);
        x.lose(0);
        x.lose(4);
        x.odds(0, 0, 5);
        x.trace();
        due.is("calls that name none leave it", x.fault(), 4);
        due.is("fault() too", x.fault(), 4);
        due.plain(x, "one that is taken", x.as(0, 0), 1);
    }

    private static void behindFault(TaleBans x, String call, long got, long want) {
        due.plain(x, call, got, want);
        due.faulted(x, "a fault again", x.put(3, 60, 0), 3);
    }

    /** Ahead of each call the latest FAULT is 3; a call that names FAULTS and comes to none makes it 0. */
    private static void faultOfTheLatestCall() {
        TaleBans x = Due.steppe("s;h30;g40");
        x.sheet(0, 2, 3);
        due.faulted(x, "a fault", x.put(3, 60, 0), 3);
        behindFault(x, "steppe, refused", x.steppe(4, 0, 0, 0), -1);
        behindFault(x, "steppe, of another lane", x.steppe(3, 3, 0, 0), -2);
        behindFault(x, "steppe, not taken", x.steppe(3, 2, 0, 0), -100);
        behindFault(x, "steppe, taken", x.steppe(3, 2, 0, 9), 2);
        behindFault(x, "plan, refused", x.plan(40, 0, 2, 0, 0), -2);
        behindFault(x, "plan, beyond season 39", x.plan(39, 0, 2, 0, 3), -2);
        behindFault(x, "plan, of unknown deeds", x.plan(0, 3, 2, 0, 3), -1);
        behindFault(x, "plan, taken", x.plan(0, 0, 2, 0, 3), -9);
        behindFault(x, "sheet, refused", x.sheet(4, 0, 0), -1);
        behindFault(x, "sheet, too long", x.sheet(1, 0, 61), -2);
        behindFault(x, "sheet, taken", x.sheet(1, 0, 1), 1);
        behindFault(x, "put, refused", x.put(4, 0, 0), -1);
        behindFault(x, "put, taken", x.put(1, 0, 7), 1);
        behindFault(x, "cell, refused", x.cell(4, 0, 0), Long.MIN_VALUE);
        behindFault(x, "cell, of no lane", x.cell(1, 0, 3), Long.MIN_VALUE);
        behindFault(x, "cell, taken", x.cell(1, 0, 0), 7);
        behindFault(x, "copy, refused", x.copy(1, 0, 4, 0, 1), -1);
        behindFault(x, "copy, taken", x.copy(1, 0, 1, 0, 1), 1);
        behindFault(x, "as, refused", x.as(2, 0), -1);
        behindFault(x, "as, of no kind", x.as(0, 3), -2);
        behindFault(x, "as, taken", x.as(0, 0), 1);
    }

    private static void many() {
        TaleBans x = Due.steppe("s;h30;g40;b12");
        x.tale(0, 0, 0);
        x.tale(0, 0, 0);
        x.move(0, 0, 0);
        x.need(0, 0);
        x.need(0, 0);
        x.need(0, 0);
        for (int k = 0; k < 5; k++) {
            x.reading(0, 0, 0, true);
        }
        x.law(1);
        int[] all = {3, 2, 1, 3, 5, 1};
        for (int what = 0; what < 6; what++) {
            due.is("many(" + what + ")", x.many(what), all[what]);
        }
        due.is("many(6)", x.many(6), -2);
        due.is("many(-1)", x.many(-1), -2);
    }
}
