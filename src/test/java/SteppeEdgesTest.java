/** The edges that the document names of promises 1 to 10, and of the Terms that they use, one by one. */
public final class SteppeEdgesTest {
    private static final String SIX = "s;h10;b31;g52;h21;b12;g40";
    private static final Due due = new Due();

    public static void main(String[] args) {
        noPersonsAtFirst();
        sheetsHaveNothingAtFirst();
        objectsApart();
        the512thCall();
        personsOfText();
        lettersOfText();
        mindsOfText();
        hearthsOfText();
        seventhPerson();
        textsThatEndTooSoon();
        noTextAtAll();
        firstOfTwoFaults();
        cellsFromIOn();
        noCellsFromIOn();
        takenAsRowOfItsLane();
        nothingIsNoCast();
        makesAllAnew();
        allRoomAnew();
        sheetsAndTraceStay();
        notTakenChangesNothing();
        leastAndGreatestMemory();
        firstAndLastPerson();
        firstAndLastOfDeedsAndSeasons();
        sixTales();
        undoneNone();
        undoneAll();
        readingsOfTheUndone();
        theOthersKeepTheirOrder();
        undoneIsForgotten();
        firstAndLastOfMoves();
        eightMoves();
        unmoved();
        laws();
        whatTheLawWas();
        paidOrNot();
        parodiedOrNot();
        due.finish();
    }

    private static void noPersonsAtFirst() {
        due.sentence("Promise 1: No STEPPE (no PERSONS)");
        TaleBans x = new TaleBans();
        due.is("many(0)", x.many(0), 0);
        for (int p = -1; p <= 6; p++) {
            due.is("ofPerson(" + p + ", 0)", x.ofPerson(p, 0), -1);
        }
        due.is("law(0)", x.law(0), -3);
        due.is("told(0, 0)", x.told(0, 0), -3);
    }

    private static void sheetsHaveNothingAtFirst() {
        due.sentence("Promise 1: SHEETS have nothing");
        TaleBans x = new TaleBans();
        for (int k = 0; k < 4; k++) {
            due.faulted(x, "put(" + k + ", 0, 1)", x.put(k, 0, 1), 1);
            due.is("lose(" + k + ")", x.lose(k), 0);
        }
    }

    private static void objectsApart() {
        due.sentence("Promise 1: A new object: No STEPPE, though another one has one");
        TaleBans one = Due.steppe(SIX);
        one.tale(1, 2, 3);
        one.tell(2);
        one.put(3, 99, 0);
        TaleBans other = new TaleBans();
        due.is("many(0)", other.many(0), 0);
        due.is("many(1)", other.many(1), 0);
        due.is("trace()", other.trace(), 0);
        due.is("fault()", other.fault(), 0);
        due.is("lose(3)", other.lose(3), 0);
        Due.settle(other, "s;h10;h20");
        due.is("many(0) of the one", one.many(0), 6);
        due.is("many(1) of the one", one.many(1), 1);
        due.is("cell(3, 10, 2) of the one", one.cell(3, 10, 2), 'g');
    }

    private static void the512thCall() {
        due.sentence("An object is used for at most 512 calls after it has been made");
        // Eleven calls settle it; then 500 tell; the last one asks.
        TaleBans x = Due.steppe("s;g10;h20");
        int trace = 0;
        for (int k = 0; k < 500; k++) {
            x.tell(0);
            trace = (((trace * 31 + 3) * 31 + 2) * 31 + 1) * 31 + 1;
        }
        due.is("call 512: trace()", x.trace(), trace);
        x = new TaleBans();
        for (int k = 0; k < 484; k++) {
            x.sheet(0, 2, 60);
        }
        // The row of 25 codes is call 485, its cells the next, the steppe 511.
        Due.settle(x, SIX);
        due.is("call 512: tale(0, 5, 39)", x.tale(0, 5, 39), 0);
    }

    private static void personsOfText() {
        due.sentence("==== 1: 2 to 6 PERSONS");
        for (int persons = 0; persons <= 7; persons++) {
            String text = (SIX + ";h10").substring(0, 1 + 4 * persons);
            int answer = persons < 2 ? -101 - 4 * persons : persons > 6 ? -125 : persons;
            TaleBans x = new TaleBans();
            due.plain(x, "steppe of " + persons, Due.settle(x, text), answer);
            due.is("many(0)", x.many(0), Math.max(answer, 0));
        }
    }

    private static void isTaken(String text) {
        TaleBans x = new TaleBans();
        due.plain(x, "steppe " + text, Due.settle(x, text), (text.length() - 1) / 4);
    }

    private static void isNotTaken(String text, int firstFault) {
        TaleBans x = new TaleBans();
        due.plain(x, "steppe " + text, Due.settle(x, text), -100 - firstFault);
        due.is("many(0) behind it", x.many(0), 0);
    }

    private static void lettersOfText() {
        due.sentence("==== 1: Kinds: 0 HERDER (h); 1 BARD (b), a HERDER; 2 GRANNY (g), a BARD");
        String[] taken = {"h", "b", "g"};
        for (int kind = 0; kind < 3; kind++) {
            TaleBans x = Due.steppe("s;" + taken[kind] + "10;h10");
            due.is("ofPerson(0, 0)", x.ofPerson(0, 0), kind);
        }
        for (String letter : new String[] {"a", "c", "f", "i", "H", "B", "G", "s", ";", "0", "\0", "\u0168"}) {
            isNotTaken("s;" + letter + "10;h10", 2);
            isNotTaken("s;h10;" + letter + "10", 6);
        }
    }

    private static void mindsOfText() {
        due.sentence("==== 1: a digit 1 .. 5 (MINDS)");
        for (int minds = 1; minds <= 5; minds++) {
            due.is("ofPerson(1, 1)", Due.steppe("s;h10;h" + minds + "0").ofPerson(1, 1), minds);
        }
        isNotTaken("s;h10;h00", 7);
        isNotTaken("s;h10;h60", 7);
        isNotTaken("s;h00;h10", 3);
        isNotTaken("s;h60;h10", 3);
        isNotTaken("s;h\u00010;h10", 3);
    }

    private static void hearthsOfText() {
        due.sentence("==== 1: a digit 0 .. 2 (its HEARTH)");
        for (int hearth = 0; hearth <= 2; hearth++) {
            due.is("ofPerson(1, 2)", Due.steppe("s;h10;h1" + hearth).ofPerson(1, 2), hearth);
        }
        isNotTaken("s;h10;h1/", 8);
        isNotTaken("s;h10;h13", 8);
        isNotTaken("s;h1/;h10", 4);
        isNotTaken("s;h13;h10", 4);
        isNotTaken("s;h1\0;h10", 4);
    }

    private static void seventhPerson() {
        due.sentence("==== 1: FIRST FAULT: .. (the ; of a seventh PERSON)");
        isTaken(SIX);
        isNotTaken(SIX + ";", 25);
        isNotTaken(SIX + ";h", 25);
        isNotTaken(SIX + ";h10", 25);
        isNotTaken(SIX + ";h10;h10", 25);
        isNotTaken(SIX + "x", 25);
        isNotTaken(SIX + SIX + "s;h10;h10s", 25);
    }

    private static void textsThatEndTooSoon() {
        due.sentence("==== 1: how many codes there are, if it just ends too soon");
        for (int n = 1; n < 9; n++) {
            isNotTaken(SIX.substring(0, n), n);
        }
        for (int n = 10; n < 25; n++) {
            if (n % 4 != 1) {
                isNotTaken(SIX.substring(0, n), n);
            }
        }
    }

    private static void noTextAtAll() {
        due.sentence("==== 1: how many codes there are (none), if it just ends too soon");
        isNotTaken("", 0);
        TaleBans x = new TaleBans();
        Due.write(x, 0, 0, SIX);
        due.plain(x, "steppe(0, 0, 0, 0)", x.steppe(0, 0, 0, 0), -100);
        due.plain(x, "steppe(0, 0, 25, 0)", x.steppe(0, 0, 25, 0), -100);
    }

    private static void firstOfTwoFaults() {
        due.sentence("==== 1: the place (from 0 on) of the first code with which no TEXT goes on");
        isNotTaken("x", 0);
        isNotTaken("xx", 0);
        isNotTaken("h;h10;h10", 0);
        isNotTaken("ss", 1);
        isNotTaken("s;;", 2);
        isNotTaken("s;h66;h10", 3);
        isNotTaken("s;h16;h66", 4);
        isNotTaken("s;h10h10", 5);
        isNotTaken("s;h10 ;h20", 5);
        isNotTaken(SIX.substring(0, 24) + "3;", 24);
    }

    private static void cellsFromIOn() {
        due.sentence("Promise 2: A STEPPE by a TEXT of n cells of a SHEET from i on");
        TaleBans x = new TaleBans();
        x.sheet(0, 0, 60);
        for (int i = 0; i < 25; i++) {
            x.put(0, 35 + i, SIX.charAt(i));
        }
        due.plain(x, "the last 25 of 60", x.steppe(0, 0, 35, 25), 6);
        due.plain(x, "from the place ahead", x.steppe(0, 0, 34, 26), -100);
        due.plain(x, "from the place behind", x.steppe(0, 0, 36, 24), -100);
        due.faulted(x, "one cell too many", x.steppe(0, 0, 35, 26), 3);
        due.faulted(x, "one place too far", x.steppe(0, 0, 36, 25), 3);
        due.faulted(x, "61 cells", x.steppe(0, 0, 0, 61), 3);
        due.plain(x, "60 cells", x.steppe(0, 0, 0, 60), -100);
        due.is("many(0)", x.many(0), 6);
    }

    private static void noCellsFromIOn() {
        due.sentence("INDEX (of cells from i on also where i is not 0 .. how many there are, if none of them is taken, too)");
        TaleBans x = new TaleBans();
        x.sheet(0, 0, 60);
        x.sheet(1, 0, 0);
        due.faulted(x, "steppe(0, 0, -1, 0)", x.steppe(0, 0, -1, 0), 3);
        due.plain(x, "steppe(0, 0, 60, 0)", x.steppe(0, 0, 60, 0), -100);
        due.faulted(x, "steppe(0, 0, 61, 0)", x.steppe(0, 0, 61, 0), 3);
        due.faulted(x, "steppe(1, 0, -1, 0)", x.steppe(1, 0, -1, 0), 3);
        due.plain(x, "steppe(1, 0, 0, 0)", x.steppe(1, 0, 0, 0), -100);
        due.faulted(x, "steppe(1, 0, 1, 0)", x.steppe(1, 0, 1, 0), 3);
        due.faulted(x, "steppe(1, 0, 0, 1)", x.steppe(1, 0, 0, 1), 3);
    }

    private static void takenAsRowOfItsLane() {
        due.sentence("2 CAST (it is of another LANE)");
        for (int lane = 0; lane < 3; lane++) {
            TaleBans x = new TaleBans();
            Due.write(x, 0, lane, SIX);
            for (int as = 0; as < 3; as++) {
                if (as == lane) {
                    due.plain(x, "steppe as of lane " + as, x.steppe(0, as, 0, 25), 6);
                } else {
                    due.faulted(x, "steppe as of lane " + as, x.steppe(0, as, 0, 25), 2);
                }
            }
        }
    }

    private static void nothingIsNoCast() {
        due.sentence("Promise 2: CAST (nothing is no CAST); NULL");
        TaleBans x = new TaleBans();
        x.sheet(1, 0, 60);
        x.lose(1);
        for (int lane = 0; lane < 3; lane++) {
            due.faulted(x, "steppe of nothing", x.steppe(0, lane, 0, 0), 1);
            due.faulted(x, "steppe of what is lost", x.steppe(1, lane, 0, 9), 1);
        }
    }

    /** All six tales, eight moves, six needs and eight readings, who is paid, a law, a trace of 1. */
    private static TaleBans full() {
        TaleBans x = Due.steppe(SIX);
        for (int k = 0; k < 8; k++) {
            x.tale(k % 6, k % 6, k);
            x.move(k % 6, 2, k);
            x.need(k % 6, 0);
            x.reading(k % 6, k % 6, k, true);
        }
        for (int k = 0; k < 6; k++) {
            x.parody(k, true);
            x.pay(k, true);
        }
        x.law(2);
        x.tell(0);
        return x;
    }

    private static void makesAllAnew() {
        due.sentence("==== 1: no TALES, MOVES, NEEDS, READINGS, nobody is PAID, the LAW is 0");
        TaleBans x = full();
        due.is("steppe", Due.settle(x, "s;h10;b31;g52;h21;b11;g40"), 6);
        for (int what = 1; what < 6; what++) {
            due.is("many(" + what + ")", x.many(what), 0);
        }
        for (int p = 0; p < 6; p++) {
            due.is("ofPerson(" + p + ", 4)", x.ofPerson(p, 4), 0);
            due.is("remembers(" + p + ", 5)", x.remembers(p, 5), 0);
        }
        due.is("hearth(4, 39)", x.hearth(4, 39), 1);
        due.is("clash(0)", x.clash(0), -9);
        due.is("laws()", x.laws(), 7);
        due.is("law(1)", x.law(1), 0);
    }

    private static void allRoomAnew() {
        due.sentence("==== 1: A TEXT that is taken makes all anew, though it is the same one");
        TaleBans x = full();
        due.is("tale(0, 0, 0) when full", x.tale(0, 0, 0), -4);
        due.is("steppe", Due.settle(x, SIX), 6);
        for (int k = 0; k < 8; k++) {
            due.is("tale " + k, x.tale(0, 0, 0), k < 6 ? k : -4);
            due.is("move " + k, x.move(0, 0, 0), k);
            due.is("need " + k, x.need(0, 0), k < 6 ? k : -4);
            due.is("reading " + k, x.reading(0, 0, 0, true), k);
        }
        for (int t = 0; t < 6; t++) {
            due.is("parody(" + t + ", false)", x.parody(t, false), 0);
        }
    }

    private static void sheetsAndTraceStay() {
        due.sentence("==== 1: all anew, but for SHEETS and TRACE");
        TaleBans x = full();
        Due.writeNumbers(x, 0, 1, 7, 8);
        due.is("steppe", Due.settle(x, "s;h10;h10"), 2);
        due.is("trace()", x.trace(), 1);
        due.is("cell(0, 1, 1)", x.cell(0, 1, 1), 8);
        due.is("cell(3, 8, 2)", x.cell(3, 8, 2), '0');
        due.is("lose(1)", x.lose(1), 0);
    }

    private static void notTakenChangesNothing() {
        due.sentence("Promise 2: -100 less the FIRST FAULT (and the STEPPE stays)");
        TaleBans x = full();
        for (String text : new String[] {"", "x", "s;h10", "s;h10;h13", SIX + ";"}) {
            due.is("steppe " + text, Due.settle(x, text) <= -100 ? 1 : 0, 1);
        }
        int[] many = {6, 6, 8, 6, 8, 2};
        for (int what = 0; what < 6; what++) {
            due.is("many(" + what + ")", x.many(what), many[what]);
        }
        for (int p = 0; p < 6; p++) {
            due.is("ofPerson(" + p + ", 0)", x.ofPerson(p, 0), p % 3);
            due.is("ofPerson(" + p + ", 4)", x.ofPerson(p, 4), 1);
            due.is("parody(" + p + ", true)", x.parody(p, true), 0);
        }
        due.is("trace()", x.trace(), 1);
    }

    private static void leastAndGreatestMemory() {
        due.sentence("==== 1: of a HERDER as much as it MINDS; of a BARD 2 more; of a GRANNY twice what a BARD's is");
        TaleBans x = Due.steppe("s;h10;h50;b10;b50;g10;g50");
        int[] memory = {1, 5, 3, 7, 6, 14};
        for (int p = 0; p < 6; p++) {
            due.is("ofPerson(" + p + ", 3)", x.ofPerson(p, 3), memory[p]);
        }
    }

    private static void firstAndLastPerson() {
        due.sentence("==== 1: PERSONS, numbered from 0 on");
        TaleBans x = Due.steppe("s;b31;g52");
        int[][] all = {{1, 3, 1, 5, 0}, {2, 5, 2, 14, 0}};
        for (int what = -1; what < 6; what++) {
            boolean isTold = what >= 0 && what < 5;
            due.is("ofPerson(-1, " + what + ")", x.ofPerson(-1, what), -1);
            due.is("ofPerson(0, " + what + ")", x.ofPerson(0, what), isTold ? all[0][what] : -2);
            due.is("ofPerson(1, " + what + ")", x.ofPerson(1, what), isTold ? all[1][what] : -2);
            due.is("ofPerson(2, " + what + ")", x.ofPerson(2, what), -1);
        }
    }

    private static void firstAndLastOfDeedsAndSeasons() {
        due.sentence("==== 2: SEASONS 0 .. 39 .. a DEED (0 .. 5)");
        TaleBans x = Due.steppe("s;h10;h11");
        int[][] refused = {{-1, 0, 0, -1}, {6, 0, 0, -1}, {0, -1, 0, -1}, {0, 2, 0, -1}, {0, 0, -1, -2}, {0, 0, 40, -2}};
        for (int[] a : refused) {
            due.is("tale(" + a[0] + ", " + a[1] + ", " + a[2] + ")", x.tale(a[0], a[1], a[2]), a[3]);
        }
        due.is("tale(0, 0, 0)", x.tale(0, 0, 0), 0);
        due.is("tale(5, 1, 39)", x.tale(5, 1, 39), 1);
        due.is("forbidden(0)", x.forbidden(0), 1);
        due.is("forbidden(39)", x.forbidden(39), 33);
    }

    private static void sixTales() {
        due.sentence("==== 2: TALES, 6 at most, each numbered by how many there are ahead of it (the first one 0)");
        TaleBans x = Due.steppe("s;h10;h11");
        for (int t = 0; t < 6; t++) {
            due.is("tale " + t, x.tale(t, t % 2, t), t);
        }
        due.is("a seventh", x.tale(0, 0, 0), -4);
        due.is("undo(1)", x.undo(1), 5);
        due.is("the sixth once more", x.tale(0, 0, 0), 5);
        due.is("a seventh once more", x.tale(0, 0, 0), -4);
        due.is("undo(6)", x.undo(6), 0);
        due.is("the first once more", x.tale(0, 0, 0), 0);
    }

    private static void undoneNone() {
        due.sentence("Promise 5: The last k TALES (0 .. as many as there are) are undone: none");
        TaleBans x = Due.steppe("s;h10;h11");
        due.is("undo(0) of none", x.undo(0), 0);
        due.is("undo(1) of none", x.undo(1), -2);
        x.tale(0, 0, 0);
        x.reading(0, 0, 0, true);
        due.is("undo(0)", x.undo(0), 1);
        due.is("undo(-1)", x.undo(-1), -2);
        due.is("undo(2)", x.undo(2), -2);
        due.is("many(1)", x.many(1), 1);
        due.is("many(4)", x.many(4), 1);
    }

    private static void undoneAll() {
        due.sentence("Promise 5: The last k TALES (0 .. as many as there are) are undone: all");
        TaleBans x = full();
        due.is("undo(7)", x.undo(7), -2);
        due.is("many(4)", x.many(4), 8);
        due.is("undo(6)", x.undo(6), 0);
        due.is("many(4)", x.many(4), 0);
        due.is("dies(0)", x.dies(0), -1);
        due.is("moves stay", x.many(2), 8);
        due.is("needs stay", x.many(3), 6);
        due.is("the law stays", x.many(5), 2);
        due.is("who is paid stays", x.ofPerson(5, 4), 1);
    }

    private static void readingsOfTheUndone() {
        due.sentence("Promise 5: (READINGS of them, too ..)");
        TaleBans x = Due.steppe("s;h10;h11");
        for (int t = 0; t < 3; t++) {
            x.tale(t, 0, 0);
        }
        for (int k = 0; k < 8; k++) {
            x.reading(0, k % 3, 0, true);
        }
        // Of tale 0 three, of tale 1 three, of tale 2 two.
        due.is("undo(1)", x.undo(1), 2);
        due.is("many(4)", x.many(4), 6);
        due.is("undo(1)", x.undo(1), 1);
        due.is("many(4)", x.many(4), 3);
        due.is("room for five", x.reading(0, 0, 0, true), 3);
        due.is("undo(1)", x.undo(1), 0);
        due.is("many(4)", x.many(4), 0);
    }

    private static void theOthersKeepTheirOrder() {
        due.sentence("Promise 5: (.. the others keep their order)");
        TaleBans x = Due.steppe("s;h10;h11");
        x.tale(0, 0, 0);
        x.tale(1, 0, 0);
        x.reading(0, 1, 0, true);
        x.reading(0, 0, 0, true);
        x.reading(0, 1, 0, true);
        x.reading(1, 0, 0, false);
        x.reading(1, 0, 0, true);
        due.is("undo(1)", x.undo(1), 1);
        due.is("many(4)", x.many(4), 3);
        due.is("with the last, which is not so", x.laws(), 0);
        due.is("back(1)", x.back(1), 2);
        due.is("without it", x.laws(), 7);
        due.is("that of 1: comes(0)", x.comes(0), 1);
    }

    private static void undoneIsForgotten() {
        due.sentence("Promise 5: The last k TALES are undone (and not the first)");
        TaleBans x = Due.steppe("s;h10;h10");
        x.tale(1, 0, 0);
        x.tale(2, 0, 0);
        x.tale(3, 0, 0);
        x.parody(2, true);
        due.is("undo(2)", x.undo(2), 1);
        due.is("forbidden(0)", x.forbidden(0), 2);
        due.is("told(0, 0)", x.told(0, 0), 0);
        due.is("dies(1)", x.dies(1), -1);
        x.tale(4, 0, 0);
        x.tale(5, 0, 0);
        due.is("tale 2 anew is no parody", x.parody(2, false), 0);
    }

    private static void firstAndLastOfMoves() {
        due.sentence("==== 2: MOVES: in a SEASON a PERSON goes to a HEARTH");
        TaleBans x = Due.steppe("s;h10;h11");
        int[][] refused = {{-1, 0, 0, -1}, {2, 0, 0, -1}, {0, -1, 0, -1}, {0, 3, 0, -1}, {0, 0, -1, -2}, {0, 0, 40, -2}};
        for (int[] a : refused) {
            due.is("move(" + a[0] + ", " + a[1] + ", " + a[2] + ")", x.move(a[0], a[1], a[2]), a[3]);
        }
        due.is("move(0, 2, 0)", x.move(0, 2, 0), 0);
        due.is("move(1, 0, 39)", x.move(1, 0, 39), 1);
        due.is("hearth(0, 0)", x.hearth(0, 0), 2);
        due.is("hearth(1, 38)", x.hearth(1, 38), 1);
        due.is("hearth(1, 39)", x.hearth(1, 39), 0);
    }

    private static void eightMoves() {
        due.sentence("==== 2: MOVES, 8 at most, numbered likewise");
        TaleBans x = Due.steppe("s;h10;h11");
        for (int k = 0; k < 8; k++) {
            due.is("move " + k, x.move(0, k % 3, k), k);
        }
        due.is("a ninth", x.move(0, 0, 0), -4);
        due.is("the eighth is made", x.hearth(0, 7), 1);
        due.is("unmove(1)", x.unmove(1), 7);
        due.is("the eighth is not made", x.hearth(0, 7), 0);
        due.is("the eighth once more", x.move(0, 2, 7), 7);
        due.is("a ninth once more", x.move(0, 0, 0), -4);
    }

    private static void unmoved() {
        due.sentence("Promise 7: The last k MOVES are taken back: how many are left");
        TaleBans x = Due.steppe("s;h10;h11");
        due.is("unmove(0) of none", x.unmove(0), 0);
        due.is("unmove(1) of none", x.unmove(1), -2);
        due.is("unmove(-1) of none", x.unmove(-1), -2);
        x.move(0, 1, 0);
        x.move(0, 2, 0);
        due.is("unmove(3)", x.unmove(3), -2);
        due.is("unmove(-1)", x.unmove(-1), -2);
        due.is("unmove(0)", x.unmove(0), 2);
        due.is("both are made", x.hearth(0, 0), 2);
        due.is("unmove(1)", x.unmove(1), 1);
        due.is("the first is left", x.hearth(0, 0), 1);
        due.is("unmove(1)", x.unmove(1), 0);
        due.is("none is left", x.hearth(0, 0), 0);
    }

    private static void laws() {
        due.sentence("==== 2: LAW 0 .. 1 .. 2");
        TaleBans x = Due.steppe("s;h10;h11");
        int before = 0;
        for (int v = -1; v <= 3; v++) {
            boolean isLaw = v >= 0 && v <= 2;
            due.is("law(" + v + ")", x.law(v), isLaw ? before : -2);
            before = isLaw ? v : before;
            due.is("many(5)", x.many(5), before);
        }
    }

    private static void whatTheLawWas() {
        due.sentence("Promise 8: The LAW becomes v: what it was");
        TaleBans x = Due.steppe("s;h10;h11");
        due.is("law(2), the first", x.law(2), 0);
        due.is("law(2), that it is", x.law(2), 2);
        due.is("law(0)", x.law(0), 2);
        due.is("law(0), that it is", x.law(0), 0);
    }

    private static void paidOrNot() {
        due.sentence("Promise 9: A PERSON is PAID (true), or not: 1; 0: it was so");
        TaleBans x = Due.steppe(SIX);
        for (int p : new int[] {0, 5}) {
            due.is("not, at first", x.pay(p, false), 0);
            due.is("is", x.pay(p, true), 1);
            due.is("is, as it was", x.pay(p, true), 0);
            due.is("ofPerson(" + p + ", 4)", x.ofPerson(p, 4), 1);
        }
        due.is("ofPerson(1, 4)", x.ofPerson(1, 4), 0);
        due.is("not any more", x.pay(0, false), 1);
        due.is("not, as it was", x.pay(0, false), 0);
        due.is("ofPerson(0, 4)", x.ofPerson(0, 4), 0);
        due.is("ofPerson(5, 4)", x.ofPerson(5, 4), 1);
        due.is("pay(6, true)", x.pay(6, true), -1);
        due.is("pay(-1, true)", x.pay(-1, true), -1);
    }

    private static void parodiedOrNot() {
        due.sentence("Promise 10: A TALE is PARODIED (true), or not: 1; 0: it was so (at first none is)");
        TaleBans x = Due.steppe(SIX);
        due.is("no tale 0", x.parody(0, true), -1);
        for (int t = 0; t < 6; t++) {
            x.tale(t, 0, 0);
        }
        for (int t : new int[] {0, 5}) {
            due.is("not, at first", x.parody(t, false), 0);
            due.is("is", x.parody(t, true), 1);
            due.is("is, as it was", x.parody(t, true), 0);
        }
        due.is("tale 1 is not", x.parody(1, false), 0);
        due.is("not any more", x.parody(0, false), 1);
        due.is("not, as it was", x.parody(0, false), 0);
        due.is("tale 5 still is", x.parody(5, true), 0);
        due.is("parody(6, true)", x.parody(6, true), -1);
        due.is("parody(-1, true)", x.parody(-1, true), -1);
    }
}
