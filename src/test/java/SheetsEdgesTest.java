/** The edges that the document names of promises 28 to 38, and of the Terms that they use, one by one. */
public final class SheetsEdgesTest {
    private static final int MIN = Integer.MIN_VALUE, MAX = Integer.MAX_VALUE;
    private static final long LOST = Long.MIN_VALUE;
    private static final Due due = new Due();

    public static void main(String[] args) {
        fourSheets();
        lanesOfSheets();
        rowsOfSixty();
        rowsOfNone();
        rowsOfLessThanNone();
        zeroAtFirst();
        newRowOfAnotherLane();
        newRowOfAnotherLength();
        refusedSheetLeavesTheRow();
        lostOrNothing();
        lostThenMadeAnew();
        firstAndLastCellPut();
        putIntoNothing();
        putBeyond();
        cutToBytes();
        cutToShorts();
        cutToInts();
        cellOfAnotherLane();
        cellOfNothing();
        firstAndLastCell();
        cellOfNoSheetOrLane();
        copyOfAll();
        copyOfNone();
        copyOntoItself();
        copyAheadAndBehind();
        copyToAnother();
        copyOfNothing();
        copyOfUnlikeLanes();
        copyBeyond();
        copyKeepsSigns();
        copyOfUnknown();
        tellings();
        tellingOfLeastAndMost();
        greetings();
        noSuchPerson();
        asOfKinds();
        asRefused();
        traceAtFirst();
        traceThatWraps();
        faultAheadOfAny();
        faultOfTheLatest();
        faultOfOneThatNamesNone();
        faultOfRefused();
        manyOfEach();
        manyWithoutSteppe();
        due.finish();
    }

    private static void fourSheets() {
        due.sentence("==== 5: SHEETS 0 .. 3");
        TaleBans x = new TaleBans();
        for (int k = -1; k <= 4; k++) {
            due.plain(x, "sheet(" + k + ", 2, 1)", x.sheet(k, 2, 1), k < 0 || k > 3 ? -1 : 1);
        }
        for (int k = 0; k < 4; k++) {
            due.plain(x, "put(" + k + ", 0, k)", x.put(k, 0, 10 + k), 1);
        }
        for (int k = 0; k < 4; k++) {
            due.plain(x, "cell(" + k + ", 0, 2)", x.cell(k, 0, 2), 10 + k);
        }
        for (int k : new int[] {-1, 4, MIN, MAX}) {
            due.plain(x, "sheet(" + k + ", 2, 1)", x.sheet(k, 2, 1), -1);
            due.plain(x, "put(" + k + ", 0, 0)", x.put(k, 0, 0), -1);
            due.plain(x, "cell(" + k + ", 0, 2)", x.cell(k, 0, 2), LOST);
            due.is("lose(" + k + ")", x.lose(k), -1);
        }
    }

    private static void lanesOfSheets() {
        due.sentence("==== 5: of a LANE: 0 bytes, 1 shorts, 2 ints");
        TaleBans x = new TaleBans();
        for (int lane : new int[] {-1, 3, MIN, MAX}) {
            due.plain(x, "sheet(0, " + lane + ", 1)", x.sheet(0, lane, 1), -2);
            due.is("lose(0)", x.lose(0), 0);
        }
        for (int lane = 0; lane < 3; lane++) {
            due.plain(x, "sheet(0, " + lane + ", 1)", x.sheet(0, lane, 1), 1);
            due.plain(x, "cell(0, 0, " + lane + ")", x.cell(0, 0, lane), 0);
        }
    }

    private static void rowsOfSixty() {
        due.sentence("==== 5: a row of 0 .. 60 numbers");
        TaleBans x = new TaleBans();
        for (int n : new int[] {61, 62, MAX}) {
            due.plain(x, "sheet(0, 0, " + n + ")", x.sheet(0, 0, n), -2);
        }
        due.is("lose(0)", x.lose(0), 0);
        due.plain(x, "sheet(0, 0, 60)", x.sheet(0, 0, 60), 1);
        due.plain(x, "put(0, 59, 1)", x.put(0, 59, 1), 1);
        due.faulted(x, "put(0, 60, 1)", x.put(0, 60, 1), 3);
        due.plain(x, "cell(0, 59, 0)", x.cell(0, 59, 0), 1);
    }

    private static void rowsOfNone() {
        due.sentence("==== 5: a row of 0 .. 60 numbers (0: it has a row all the same)");
        TaleBans x = new TaleBans();
        due.plain(x, "sheet(0, 1, 0)", x.sheet(0, 1, 0), 1);
        due.faulted(x, "put(0, 0, 1)", x.put(0, 0, 1), 3);
        lost(x, "cell(0, 0, 1)", x.cell(0, 0, 1), 3);
        lost(x, "cell(0, 0, 0)", x.cell(0, 0, 0), 2);
        due.plain(x, "copy(0, 0, 0, 0, 0)", x.copy(0, 0, 0, 0, 0), 0);
        due.faulted(x, "copy(0, 0, 0, 0, 1)", x.copy(0, 0, 0, 0, 1), 3);
        due.faulted(x, "copy(0, 1, 0, 0, 0)", x.copy(0, 1, 0, 0, 0), 3);
        due.is("lose(0)", x.lose(0), 1);
        due.is("lose(0)", x.lose(0), 0);
    }

    private static void rowsOfLessThanNone() {
        due.sentence("4 SIZE (a length below 0)");
        TaleBans x = new TaleBans();
        due.faulted(x, "sheet(0, 0, -1)", x.sheet(0, 0, -1), 4);
        due.faulted(x, "sheet(0, 0, MIN)", x.sheet(0, 0, MIN), 4);
        due.plain(x, "sheet(0, 3, -1)", x.sheet(0, 3, -1), -2);
        due.plain(x, "sheet(4, 0, -1)", x.sheet(4, 0, -1), -1);
        due.is("lose(0)", x.lose(0), 0);
    }

    private static void zeroAtFirst() {
        due.sentence("==== 5: numbers (0 at first)");
        TaleBans x = new TaleBans();
        x.sheet(0, 2, 60);
        for (int i = 0; i < 60; i++) {
            x.put(0, i, -1 - i);
        }
        due.is("sheet(0, 2, 60)", x.sheet(0, 2, 60), 1);
        for (int i = 0; i < 60; i++) {
            due.is("cell(0, " + i + ", 2)", x.cell(0, i, 2), 0);
        }
    }

    private static void newRowOfAnotherLane() {
        due.sentence("Promise 28: A SHEET gets a new row (of another LANE)");
        TaleBans x = new TaleBans();
        x.sheet(0, 2, 2);
        x.put(0, 1, MAX);
        due.plain(x, "sheet(0, 0, 2)", x.sheet(0, 0, 2), 1);
        lost(x, "cell(0, 1, 2)", x.cell(0, 1, 2), 2);
        due.plain(x, "cell(0, 1, 0)", x.cell(0, 1, 0), 0);
        x.put(0, 1, 200);
        due.plain(x, "cell(0, 1, 0)", x.cell(0, 1, 0), -56);
    }

    private static void newRowOfAnotherLength() {
        due.sentence("Promise 28: A SHEET gets a new row (a shorter one, a longer one)");
        TaleBans x = new TaleBans();
        x.sheet(0, 2, 5);
        x.put(0, 4, 9);
        x.put(0, 1, 8);
        x.sheet(0, 2, 2);
        due.faulted(x, "put(0, 2, 1)", x.put(0, 2, 1), 3);
        due.plain(x, "cell(0, 1, 2)", x.cell(0, 1, 2), 0);
        x.sheet(0, 2, 5);
        due.plain(x, "cell(0, 4, 2)", x.cell(0, 4, 2), 0);
    }

    private static void refusedSheetLeavesTheRow() {
        due.sentence("REFUSALS .. change nothing; FAULTS .. changes nothing (of a new row)");
        TaleBans x = new TaleBans();
        x.sheet(0, 1, 3);
        x.put(0, 2, 300);
        due.is("sheet(0, 3, 1)", x.sheet(0, 3, 1), -2);
        due.is("sheet(0, 0, 61)", x.sheet(0, 0, 61), -2);
        due.is("sheet(0, 0, -1)", x.sheet(0, 0, -1), -14);
        due.plain(x, "cell(0, 2, 1)", x.cell(0, 2, 1), 300);
        lost(x, "cell(0, 3, 1)", x.cell(0, 3, 1), 3);
    }

    private static void lostOrNothing() {
        due.sentence("Promise 29: A SHEET has nothing: 1; 0: it had nothing");
        TaleBans x = new TaleBans();
        due.is("lose(0), at first", x.lose(0), 0);
        x.sheet(0, 0, 1);
        x.sheet(3, 0, 1);
        due.is("lose(0)", x.lose(0), 1);
        due.is("lose(0), once more", x.lose(0), 0);
        due.is("lose(3)", x.lose(3), 1);
        due.is("lose(-1)", x.lose(-1), -1);
        due.is("lose(4)", x.lose(4), -1);
    }

    private static void lostThenMadeAnew() {
        due.sentence("Promise 29: A SHEET has nothing (nor has what it gets anew)");
        TaleBans x = new TaleBans();
        x.sheet(0, 0, 2);
        x.put(0, 1, 7);
        x.lose(0);
        lost(x, "cell(0, 1, 0)", x.cell(0, 1, 0), 1);
        due.faulted(x, "put(0, 1, 5)", x.put(0, 1, 5), 1);
        x.sheet(0, 0, 2);
        due.plain(x, "cell(0, 1, 0)", x.cell(0, 1, 0), 0);
    }

    private static void firstAndLastCellPut() {
        due.sentence("Promise 30: Cell i of a SHEET becomes v: 1 (the first, the last; no other)");
        TaleBans x = new TaleBans();
        x.sheet(1, 2, 3);
        due.plain(x, "put(1, 0, 5)", x.put(1, 0, 5), 1);
        due.plain(x, "put(1, 2, 6)", x.put(1, 2, 6), 1);
        rowIs(x, 1, 2, 5, 0, 6);
        due.plain(x, "put(1, 2, 7)", x.put(1, 2, 7), 1);
        rowIs(x, 1, 2, 5, 0, 7);
    }

    private static void putIntoNothing() {
        due.sentence("Promise 30: UNKNOWN; NULL; INDEX");
        TaleBans x = new TaleBans();
        due.plain(x, "put(4, -1, 0)", x.put(4, -1, 0), -1);
        due.plain(x, "put(-1, -1, 0)", x.put(-1, -1, 0), -1);
        due.faulted(x, "put(0, -1, 0)", x.put(0, -1, 0), 1);
        due.faulted(x, "put(0, 0, 0)", x.put(0, 0, 0), 1);
        x.sheet(0, 0, 1);
        due.faulted(x, "put(0, -1, 0) into a row", x.put(0, -1, 0), 3);
    }

    private static void putBeyond() {
        due.sentence("Promise 30: INDEX");
        TaleBans x = new TaleBans();
        x.sheet(0, 2, 3);
        for (int i : new int[] {-1, 3, 59, 60, MIN, MAX}) {
            due.faulted(x, "put(0, " + i + ", 9)", x.put(0, i, 9), 3);
        }
        rowIs(x, 0, 2, 0, 0, 0);
        x.sheet(0, 2, 60);
        due.plain(x, "cell(0, 3, 2)", x.cell(0, 3, 2), 0);
        due.plain(x, "cell(0, 59, 2)", x.cell(0, 59, 2), 0);
    }

    private static void cutIs(int lane, int... putAndDue) {
        TaleBans x = new TaleBans();
        x.sheet(0, lane, 1);
        for (int k = 0; k < putAndDue.length; k += 2) {
            due.plain(x, "put(0, 0, " + putAndDue[k] + ")", x.put(0, 0, putAndDue[k]), 1);
            due.plain(x, "cell behind it", x.cell(0, 0, lane), putAndDue[k + 1]);
        }
    }

    private static void cutToBytes() {
        due.sentence("==== 5: what comes to a cell of it is cut to its LANE: bytes");
        cutIs(0, 127, 127, 128, -128, -128, -128, -129, 127, 255, -1, 256, 0, -256, 0, -257, -1,
            32767, -1, 65536, 0, MAX, -1, MIN, 0);
    }

    private static void cutToShorts() {
        due.sentence("==== 5: what comes to a cell of it is cut to its LANE: shorts");
        cutIs(1, 128, 128, -129, -129, 32767, 32767, 32768, -32768, -32768, -32768, -32769, 32767, 65535, -1,
            65536, 0, -65536, 0, -65537, -1, MAX, -1, MIN, 0);
    }

    private static void cutToInts() {
        due.sentence("==== 5: what comes to a cell of it is cut to its LANE: ints");
        cutIs(2, 128, 128, 32768, 32768, 65536, 65536, -65537, -65537, MAX, MAX, MIN, MIN);
    }

    private static void lost(TaleBans x, String call, long got, int fault) {
        due.is(call, got, LOST);
        due.is("fault() behind " + call, x.fault(), fault);
    }

    private static void cellOfAnotherLane() {
        due.sentence("Promise 31: taken as a row of a LANE .. FAULTS CAST");
        TaleBans x = new TaleBans();
        for (int lane = 0; lane < 3; lane++) {
            x.sheet(lane, lane, 1);
            for (int as = 0; as < 3; as++) {
                if (as == lane) {
                    due.plain(x, "cell(" + lane + ", 0, " + as + ")", x.cell(lane, 0, as), 0);
                } else {
                    lost(x, "cell(" + lane + ", 0, " + as + ")", x.cell(lane, 0, as), 2);
                    lost(x, "cell(" + lane + ", 1, " + as + ")", x.cell(lane, 1, as), 2);
                }
            }
        }
    }

    private static void cellOfNothing() {
        due.sentence("Promise 31: FAULTS CAST (nothing is no CAST), NULL, INDEX");
        TaleBans x = new TaleBans();
        for (int lane = 0; lane < 3; lane++) {
            lost(x, "cell(0, 0, " + lane + ")", x.cell(0, 0, lane), 1);
            lost(x, "cell(0, -1, " + lane + ")", x.cell(0, -1, lane), 1);
        }
    }

    private static void firstAndLastCell() {
        due.sentence("Promise 31: Cell i of what a SHEET has .. INDEX");
        TaleBans x = new TaleBans();
        Due.writeNumbers(x, 0, 1, 7, 8, 9);
        rowIs(x, 0, 1, 7, 8, 9);
        for (int i : new int[] {-1, 3, 59, 60, MIN, MAX}) {
            lost(x, "cell(0, " + i + ", 1)", x.cell(0, i, 1), 3);
        }
    }

    private static void cellOfNoSheetOrLane() {
        due.sentence("Promise 31: LOST: UNKNOWN, OUTSIDE: lane");
        TaleBans x = new TaleBans();
        x.sheet(0, 0, 1);
        for (int lane : new int[] {-1, 3, MIN, MAX}) {
            lost(x, "cell(0, 0, " + lane + ")", x.cell(0, 0, lane), 0);
            lost(x, "cell(1, 0, " + lane + ")", x.cell(1, 0, lane), 0);
            lost(x, "cell(4, 0, " + lane + ")", x.cell(4, 0, lane), 0);
        }
        lost(x, "cell(4, 0, 0)", x.cell(4, 0, 0), 0);
        lost(x, "cell(-1, 0, 0)", x.cell(-1, 0, 0), 0);
    }

    private static void rowIs(TaleBans x, int k, int lane, int... row) {
        for (int i = 0; i < row.length; i++) {
            due.is("cell(" + k + ", " + i + ", " + lane + ")", x.cell(k, i, lane), row[i]);
        }
        due.is("cell behind the last", x.cell(k, row.length, lane), LOST);
    }

    private static void copyOfAll() {
        due.sentence("Promise 32: n cells of a SHEET from i on go to another one from j on: n (all 60)");
        TaleBans x = new TaleBans();
        x.sheet(0, 2, 60);
        x.sheet(3, 2, 60);
        for (int i = 0; i < 60; i++) {
            x.put(0, i, 1000 + i);
        }
        due.plain(x, "copy(0, 0, 3, 0, 60)", x.copy(0, 0, 3, 0, 60), 60);
        for (int i = 0; i < 60; i++) {
            due.is("cell(3, " + i + ", 2)", x.cell(3, i, 2), 1000 + i);
        }
        due.faulted(x, "copy(0, 0, 3, 0, 61)", x.copy(0, 0, 3, 0, 61), 3);
    }

    private static void copyOfNone() {
        due.sentence("INDEX (of cells from i on also where i is not 0 .. how many there are, if none of them is taken, too): copy");
        TaleBans x = new TaleBans();
        Due.writeNumbers(x, 0, 1, 1, 2, 3);
        Due.writeNumbers(x, 1, 1, 9, 8);
        for (int i = -1; i <= 4; i++) {
            for (int j = -1; j <= 3; j++) {
                String call = "copy(0, " + i + ", 1, " + j + ", 0)";
                if (i < 0 || i > 3 || j < 0 || j > 2) {
                    due.faulted(x, call, x.copy(0, i, 1, j, 0), 3);
                } else {
                    due.plain(x, call, x.copy(0, i, 1, j, 0), 0);
                }
            }
        }
        rowIs(x, 1, 1, 9, 8);
        rowIs(x, 0, 1, 1, 2, 3);
    }

    private static void copyOntoItself() {
        due.sentence("Promise 32: go to another one (perhaps the same)");
        TaleBans x = new TaleBans();
        Due.writeNumbers(x, 0, 1, 1, 2, 3, 4);
        due.plain(x, "copy(0, 0, 0, 0, 4)", x.copy(0, 0, 0, 0, 4), 4);
        rowIs(x, 0, 1, 1, 2, 3, 4);
        due.plain(x, "copy(0, 0, 0, 2, 2)", x.copy(0, 0, 0, 2, 2), 2);
        rowIs(x, 0, 1, 1, 2, 1, 2);
    }

    private static void copyAheadAndBehind() {
        due.sentence("Promise 32: as they were");
        TaleBans x = new TaleBans();
        Due.writeNumbers(x, 0, 2, 1, 2, 3, 4, 5);
        due.plain(x, "copy(0, 0, 0, 1, 4)", x.copy(0, 0, 0, 1, 4), 4);
        rowIs(x, 0, 2, 1, 1, 2, 3, 4);
        due.plain(x, "copy(0, 1, 0, 0, 4)", x.copy(0, 1, 0, 0, 4), 4);
        rowIs(x, 0, 2, 1, 2, 3, 4, 4);
        due.plain(x, "copy(0, 0, 0, 2, 3)", x.copy(0, 0, 0, 2, 3), 3);
        rowIs(x, 0, 2, 1, 2, 1, 2, 3);
    }

    private static void copyToAnother() {
        due.sentence("Promise 32: n cells of a SHEET from i on go to another one from j on (the first and the last)");
        TaleBans x = new TaleBans();
        Due.writeNumbers(x, 2, 0, 1, 2, 3);
        Due.writeNumbers(x, 3, 0, 9, 8, 7, 6);
        due.plain(x, "copy(2, 2, 3, 0, 1)", x.copy(2, 2, 3, 0, 1), 1);
        rowIs(x, 3, 0, 3, 8, 7, 6);
        due.plain(x, "copy(2, 0, 3, 3, 1)", x.copy(2, 0, 3, 3, 1), 1);
        rowIs(x, 3, 0, 3, 8, 7, 1);
        due.plain(x, "copy(2, 1, 3, 2, 2)", x.copy(2, 1, 3, 2, 2), 2);
        rowIs(x, 3, 0, 3, 8, 2, 3);
        rowIs(x, 2, 0, 1, 2, 3);
    }

    private static void copyOfNothing() {
        due.sentence("Promise 32: FAULTS NULL (the first, the other)");
        TaleBans x = new TaleBans();
        x.sheet(0, 0, 2);
        due.faulted(x, "copy(1, 0, 0, 0, 1)", x.copy(1, 0, 0, 0, 1), 1);
        due.faulted(x, "copy(0, 0, 1, 0, 1)", x.copy(0, 0, 1, 0, 1), 1);
        due.faulted(x, "copy(1, 0, 2, 0, 0)", x.copy(1, 0, 2, 0, 0), 1);
        due.faulted(x, "copy(1, 0, 1, 0, 0)", x.copy(1, 0, 1, 0, 0), 1);
        due.faulted(x, "copy(0, -1, 1, -1, -1)", x.copy(0, -1, 1, -1, -1), 1);
        x.sheet(1, 0, 2);
        x.lose(0);
        due.faulted(x, "copy(0, 0, 1, 0, 1)", x.copy(0, 0, 1, 0, 1), 1);
        due.faulted(x, "copy(1, 0, 0, 0, 1)", x.copy(1, 0, 0, 0, 1), 1);
    }

    private static void copyOfUnlikeLanes() {
        due.sentence("Promise 32: CAST (unlike LANES)");
        TaleBans x = new TaleBans();
        for (int lane = 0; lane < 3; lane++) {
            Due.writeNumbers(x, lane, lane, 1, 2);
        }
        for (int from = 0; from < 3; from++) {
            for (int to = 0; to < 3; to++) {
                String call = "copy(" + from + ", 0, " + to + ", 0, 1)";
                if (from == to) {
                    due.plain(x, call, x.copy(from, 0, to, 0, 1), 1);
                } else {
                    due.faulted(x, call, x.copy(from, 0, to, 0, 1), 2);
                    due.faulted(x, call + " of none", x.copy(from, 0, to, 0, 0), 2);
                    due.faulted(x, call + " beyond", x.copy(from, 5, to, -1, -1), 2);
                }
            }
        }
    }

    private static void copyBeyond() {
        due.sentence("Promise 32: INDEX: i, j, n below 0 or beyond");
        TaleBans x = new TaleBans();
        Due.writeNumbers(x, 0, 1, 1, 2, 3);
        Due.writeNumbers(x, 1, 1, 9, 8);
        int[][] beyond = {{-1, 0, 1}, {0, -1, 1}, {0, 0, -1}, {3, 0, 1}, {0, 2, 1}, {0, 0, 3}, {2, 0, 2}, {0, 1, 2},
            {MAX, 0, 1}, {0, MAX, 1}, {0, 0, MAX}, {1, 1, MAX}, {MAX, MAX, MAX}, {MIN, 0, 1}, {0, MIN, 1}, {0, 0, MIN},
            {1, 1, MIN}, {MIN, MIN, MIN}, {MIN, MIN, MAX}, {4, 0, -1}, {0, 3, -1}, {-1, -1, 2}};
        for (int[] a : beyond) {
            String call = "copy(0, " + a[0] + ", 1, " + a[1] + ", " + a[2] + ")";
            due.faulted(x, call, x.copy(0, a[0], 1, a[1], a[2]), 3);
        }
        rowIs(x, 0, 1, 1, 2, 3);
        rowIs(x, 1, 1, 9, 8);
        due.plain(x, "copy(0, 1, 1, 0, 2)", x.copy(0, 1, 1, 0, 2), 2);
    }

    private static void copyKeepsSigns() {
        due.sentence("Promise 32: as they were (the least and the greatest of a LANE)");
        TaleBans x = new TaleBans();
        int[][] ends = {{-128, 127}, {-32768, 32767}, {MIN, MAX}};
        for (int lane = 0; lane < 3; lane++) {
            Due.writeNumbers(x, 0, lane, ends[lane]);
            x.sheet(1, lane, 2);
            due.plain(x, "copy(0, 0, 1, 0, 2)", x.copy(0, 0, 1, 0, 2), 2);
            rowIs(x, 1, lane, ends[lane]);
        }
    }

    private static void copyOfUnknown() {
        due.sentence("Promise 32: UNKNOWN");
        TaleBans x = new TaleBans();
        x.sheet(0, 0, 2);
        due.plain(x, "copy(4, -1, 1, 0, 1)", x.copy(4, -1, 1, 0, 1), -1);
        due.plain(x, "copy(1, 0, 4, -1, 1)", x.copy(1, 0, 4, -1, 1), -1);
        due.plain(x, "copy(-1, 0, 0, 0, -1)", x.copy(-1, 0, 0, 0, -1), -1);
        due.plain(x, "copy(0, 0, -1, 0, 1)", x.copy(0, 0, -1, 0, 1), -1);
        due.plain(x, "copy(MIN, 0, MAX, 0, 1)", x.copy(MIN, 0, MAX, 0, 1), -1);
    }

    // ---- parts

    private static void tellings() {
        due.sentence("==== 5: TELLING of PERSONS by bodies that leave their number in TRACE as they begin");
        TaleBans x = Due.steppe("s;h30;b30;g30");
        due.is("tell(0)", x.tell(0), 3);
        due.is("trace()", x.trace(), 1);
        x = Due.steppe("s;h30;b30;g30");
        due.is("tell(1)", x.tell(1), 103);
        due.is("trace()", x.trace(), 31 * 2 + 1);
        x = Due.steppe("s;h30;b30;g30");
        due.is("tell(2)", x.tell(2), 106);
        due.is("trace()", x.trace(), 31 * (31 * (31 * 3 + 2) + 1) + 1);
    }

    private static void tellingOfLeastAndMost() {
        due.sentence("==== 5: HERDER: MINDS. BARD: .., and 100. GRANNY: what BARD's gives, and then once more what HERDER's gives");
        TaleBans x = Due.steppe("s;h10;h50;b10;b50;g10;g50");
        int[] all = {1, 5, 101, 105, 102, 110};
        for (int p = 0; p < 6; p++) {
            due.is("tell(" + p + ")", x.tell(p), all[p]);
        }
    }

    private static void greetings() {
        due.sentence("==== 5: GREETED by a lent body (4): the PERSON's number; GRANNIES have their own (5): 70");
        TaleBans x = Due.steppe("s;h10;b10;g10;g10;b10;h10");
        int[] all = {0, 1, 70, 70, 4, 5};
        int[] bodies = {4, 4, 5, 5, 4, 4};
        int trace = 0;
        for (int p = 0; p < 6; p++) {
            due.is("greet(" + p + ")", x.greet(p), all[p]);
            trace = 31 * trace + bodies[p];
            due.is("trace()", x.trace(), trace);
        }
    }

    private static void noSuchPerson() {
        due.sentence("Promises 33 and 34: UNKNOWN (and no body leaves its number)");
        TaleBans x = Due.steppe("s;h10;g10");
        for (int p : new int[] {-1, 2, 5, 6, MIN, MAX}) {
            due.is("tell(" + p + ")", x.tell(p), -1);
            due.is("greet(" + p + ")", x.greet(p), -1);
        }
        due.is("trace()", x.trace(), 0);
        due.is("tell(1)", x.tell(1), 102);
    }

    private static void asOfKinds() {
        due.sentence("Promise 35: A PERSON, taken as one of a kind: 1 .. CAST: it is none");
        TaleBans x = Due.steppe("s;h10;b10;g10");
        int[][] all = {{1, -12, -12}, {1, 1, -12}, {1, 1, 1}};
        for (int p = 0; p < 3; p++) {
            for (int kind = 0; kind < 3; kind++) {
                due.is("as(" + p + ", " + kind + ")", x.as(p, kind), all[p][kind]);
                due.is("fault()", x.fault(), all[p][kind] == 1 ? 0 : 2);
            }
        }
        due.is("trace()", x.trace(), 0);
    }

    private static void asRefused() {
        due.sentence("Promise 35: UNKNOWN; OUTSIDE");
        TaleBans x = Due.steppe("s;h10;g10");
        for (int kind : new int[] {-1, 3, MIN, MAX}) {
            due.plain(x, "as(0, " + kind + ")", x.as(0, kind), -2);
            due.plain(x, "as(2, " + kind + ")", x.as(2, kind), -1);
            due.plain(x, "as(-1, " + kind + ")", x.as(-1, kind), -1);
        }
        due.plain(x, "as(2, 0)", x.as(2, 0), -1);
        due.plain(x, "as(0, 0) without a steppe", new TaleBans().as(0, 0), -1);
    }

    private static void traceAtFirst() {
        due.sentence("==== 5: TRACE (.. 0 at first)");
        due.is("trace()", new TaleBans().trace(), 0);
        TaleBans x = Due.steppe("s;h10;g10");
        due.is("trace()", x.trace(), 0);
        x.as(1, 2);
        x.ofPerson(1, 0);
        due.is("trace()", x.trace(), 0);
    }

    private static void traceThatWraps() {
        due.sentence("==== 5: TRACE (an int that wraps ..)");
        TaleBans x = Due.steppe("s;h10;g10");
        long whole = 0;
        for (int k = 0; k < 7; k++) {
            x.greet(1);
            whole = 31 * whole + 5;
            due.is("trace()", x.trace(), (int) whole);
        }
        // 5 * (31^7 - 1) / 30, less one 2^32.
        due.is("the number that does not wrap is greater", whole > MAX ? 1 : 0, 1);
        due.is("trace(), by hand", x.trace(), 290468389);
        for (int k = 0; k < 100; k++) {
            x.greet(0);
            whole = 31 * whole + 4;
        }
        due.is("trace()", x.trace(), (int) whole);
    }

    private static void faultAheadOfAny() {
        due.sentence("Promise 37: (0 ahead of any)");
        TaleBans x = new TaleBans();
        due.is("fault()", x.fault(), 0);
        x.tale(0, 0, 0);
        x.many(9);
        x.lose(9);
        due.is("fault()", x.fault(), 0);
    }

    private static void faultOfTheLatest() {
        due.sentence("Promise 37: The FAULT of the latest call that names one");
        TaleBans x = Due.steppe("s;h10;g10");
        due.faulted(x, "put(0, 0, 0)", x.put(0, 0, 0), 1);
        due.faulted(x, "as(0, 2)", x.as(0, 2), 2);
        due.faulted(x, "sheet(0, 0, -1)", x.sheet(0, 0, -1), 4);
        due.faulted(x, "put(3, 9, 0)", x.put(3, 9, 0), 3);
        due.faulted(x, "steppe(3, 0, 0, 9)", x.steppe(3, 0, 0, 9), 2);
        due.faulted(x, "plan(0, 0, 0, 0, 0)", x.plan(0, 0, 0, 0, 0), 1);
        due.faulted(x, "copy(3, 0, 3, 0, 10)", x.copy(3, 0, 3, 0, 10), 3);
        lost(x, "cell(3, 0, 1)", x.cell(3, 0, 1), 2);
        due.plain(x, "put(3, 0, 's')", x.put(3, 0, 's'), 1);
        lost(x, "cell(3, 9, 2)", x.cell(3, 9, 2), 3);
        due.plain(x, "cell(3, 0, 2)", x.cell(3, 0, 2), 's');
    }

    /** Makes every call that names no FAULT, once taken and once refused. */
    private static void faultOfOneThatNamesNone() {
        due.sentence("Promise 37: of the latest call that names one (those that name none leave it)");
        TaleBans x = Due.steppe("s;h10;g10");
        due.faulted(x, "sheet(0, 0, -1)", x.sheet(0, 0, -1), 4);
        for (int p : new int[] {0, 9}) {
            x.ofPerson(p, 0);
            x.tale(0, p, 0);
            x.move(p, 0, 0);
            x.law(p);
            x.pay(p, true);
            x.parody(p, true);
            x.remembers(p, 0);
            x.hearth(p, 0);
            x.told(p, 0);
            x.forbidden(p * 9);
            x.dies(p);
            x.free(p, 0);
            x.fewest(p, 0);
            x.longest(0, p);
            x.need(p, p);
            x.clash(p);
            x.reading(p, 0, 0, true);
            x.back(p);
            x.comes(p);
            x.paid();
            x.laws();
            x.odds(p, 0, 0);
            x.lose(p);
            x.tell(p);
            x.greet(p);
            x.trace();
            x.many(p);
            x.undo(p);
            x.unmove(p);
        }
        due.is("fault()", x.fault(), 4);
        due.is("fault() once more", x.fault(), 4);
    }

    private static void faultOfRefused() {
        due.sentence("Promise 37: 0: it came to none, or was refused");
        TaleBans x = Due.steppe("s;h10;g10");
        x.sheet(0, 2, 1);
        int[] answers = {-1, -2, -1, -2, -1, -2, -1, -1, -1, -2};
        for (int k = 0; k < answers.length; k++) {
            due.faulted(x, "put(0, 1, 0)", x.put(0, 1, 0), 3);
            due.plain(x, "refused call " + k, refused(x, k), answers[k]);
        }
        due.faulted(x, "put(0, 1, 0)", x.put(0, 1, 0), 3);
        due.plain(x, "cell(4, 0, 0)", x.cell(4, 0, 0), LOST);
        due.faulted(x, "put(0, 1, 0)", x.put(0, 1, 0), 3);
        due.plain(x, "cell(0, 0, 3)", x.cell(0, 0, 3), LOST);
        due.faulted(x, "put(0, 1, 0)", x.put(0, 1, 0), 3);
        due.plain(x, "steppe(0, 2, 0, 1)", x.steppe(0, 2, 0, 1), -100);
    }

    private static int refused(TaleBans x, int k) {
        switch (k) {
            case 0: return x.steppe(4, 2, 0, 1);
            case 1: return x.steppe(0, 3, 0, 1);
            case 2: return x.plan(0, 4, 2, 0, 1);
            case 3: return x.plan(40, 0, 2, 0, 1);
            case 4: return x.sheet(4, 0, 1);
            case 5: return x.sheet(0, 0, 61);
            case 6: return x.put(4, 0, 1);
            case 7: return x.copy(0, 0, 4, 0, 1);
            case 8: return x.as(2, 0);
            default: return x.as(0, 3);
        }
    }

    private static void manyOfEach() {
        due.sentence("Promise 38: How many: 0 PERSONS, 1 TALES, 2 MOVES, 3 NEEDS, 4 READINGS, 5 the LAW");
        TaleBans x = Due.steppe("s;h10;g10;h10;g10;h10;g10");
        for (int k = 0; k < 9; k++) {
            x.tale(0, 0, 0);
            x.move(0, 0, 0);
            x.need(0, 0);
            x.reading(0, 0, 0, true);
        }
        x.law(2);
        int[] most = {-2, 6, 6, 8, 6, 8, 2, -2};
        for (int what = -1; what <= 6; what++) {
            due.is("many(" + what + ")", x.many(what), most[what + 1]);
        }
        due.is("many(MIN)", x.many(MIN), -2);
        due.is("many(MAX)", x.many(MAX), -2);
    }

    private static void manyWithoutSteppe() {
        due.sentence("Promise 38: (0 all without a STEPPE). OUTSIDE");
        TaleBans x = new TaleBans();
        x.tale(0, 0, 0);
        x.move(0, 0, 0);
        x.need(0, 0);
        x.reading(0, 0, 0, true);
        x.law(2);
        Due.settle(x, "s;h10");
        for (int what = -1; what <= 6; what++) {
            due.is("many(" + what + ")", x.many(what), what < 0 || what > 5 ? -2 : 0);
        }
    }
}
