/** Promises 1 to 10: a new object, the steppe. */
public final class SteppeTest {
    private static final int MIN = Integer.MIN_VALUE, MAX = Integer.MAX_VALUE;
    private static final Due due = new Due();

    public static void main(String[] args) {
        newObject();
        callsWithoutSteppe();
        textsThatAreTaken();
        firstFaults();
        textsThatEndTooSoon();
        lanesOfTexts();
        faultsOfSteppe();
        steppeMakesAllAnew();
        steppeNotTakenChangesNothing();
        ofPerson();
        tale();
        undo();
        move();
        unmove();
        law();
        pay();
        parody();
        due.finish();
    }

    private static void newObject() {
        TaleBans x = new TaleBans();
        for (int what = 0; what < 6; what++) {
            due.is("new: many(" + what + ")", x.many(what), 0);
        }
        due.is("new: trace()", x.trace(), 0);
        due.is("new: fault()", x.fault(), 0);
        for (int k = 0; k < 4; k++) {
            due.is("new: lose(" + k + ")", x.lose(k), 0);
            due.faulted(x, "new: put(" + k + ", 0, 1)", x.put(k, 0, 1), 1);
        }
        due.is("new: ofPerson(0, 0)", x.ofPerson(0, 0), -1);
    }

    private static void callsWithoutSteppe() {
        TaleBans x = new TaleBans();
        due.is("none: tale(0, 0, 0)", x.tale(0, 0, 0), -1);
        due.is("none: undo(0)", x.undo(0), 0);
        due.is("none: undo(1)", x.undo(1), -2);
        due.is("none: move(0, 0, 0)", x.move(0, 0, 0), -1);
        due.is("none: unmove(0)", x.unmove(0), 0);
        due.is("none: unmove(1)", x.unmove(1), -2);
        due.is("none: law(0)", x.law(0), -3);
        due.is("none: law(3)", x.law(3), -2);
        due.is("none: pay(0, true)", x.pay(0, true), -1);
        due.is("none: parody(0, true)", x.parody(0, true), -1);
        due.is("none: remembers(0, 0)", x.remembers(0, 0), -1);
        due.is("none: hearth(0, 0)", x.hearth(0, 0), -1);
        due.is("none: told(2, 39)", x.told(2, 39), -3);
        due.is("none: forbidden(39)", x.forbidden(39), -3);
        due.is("none: dies(0)", x.dies(0), -1);
        due.is("none: free(5, 39)", x.free(5, 39), -3);
        due.is("none: fewest(5, 39)", x.fewest(5, 39), -3);
        due.is("none: longest(39, 1)", x.longest(39, 1), -3);
        due.is("none: need(5, 5)", x.need(5, 5), -3);
        due.is("none: clash(1)", x.clash(1), -3);
        due.is("none: plan(0, 0, 0, 0, 0)", x.plan(0, 0, 0, 0, 0), -3);
        due.is("none: reading(0, 0, 0, true)", x.reading(0, 0, 0, true), -1);
        due.is("none: back(0)", x.back(0), 0);
        due.is("none: back(1)", x.back(1), -2);
        due.is("none: comes(0)", x.comes(0), -1);
        due.is("none: paid()", x.paid(), -3);
        due.is("none: laws()", x.laws(), -3);
        due.is("none: odds(0, 0, 0)", x.odds(0, 0, 0), Long.MIN_VALUE);
        due.is("none: tell(0)", x.tell(0), -1);
        due.is("none: greet(0)", x.greet(0), -1);
        due.is("none: as(0, 0)", x.as(0, 0), -1);
    }

    private static void textsThatAreTaken() {
        String text = "s;h10;b31;g52;h21;b12;g40";
        for (int persons = 2; persons <= 6; persons++) {
            TaleBans x = new TaleBans();
            due.plain(x, "steppe of " + persons, Due.settle(x, text.substring(0, 1 + 4 * persons)), persons);
            due.is("many(0) of " + persons, x.many(0), persons);
            due.is("ofPerson behind the last of " + persons, x.ofPerson(persons, 0), -1);
        }
        TaleBans x = new TaleBans();
        Due.write(x, 0, 0, "h5" + text + "zz");
        due.plain(x, "steppe from cell 2 on", x.steppe(0, 0, 2, 25), 6);
        due.plain(x, "steppe of its first two", x.steppe(0, 0, 2, 9), 2);
    }

    private static void firstFaults() {
        String text = "s;h10;b31;g52;h21;b12;g40";
        String[] wrongs = {"hSt\0", ":<h1", "saci;", "0678h", "/3459"};
        for (int place = 0; place < text.length(); place++) {
            int kind = place == 0 ? 0 : 1 + (place - 1) % 4;
            for (char wrong : wrongs[kind].toCharArray()) {
                String broken = text.substring(0, place) + wrong + text.substring(place + 1);
                TaleBans x = new TaleBans();
                due.plain(x, "steppe " + broken, Due.settle(x, broken), -100 - place);
            }
        }
        for (String more : new String[] {";", "h", ";h10", "\0", "s"}) {
            TaleBans x = new TaleBans();
            due.plain(x, "steppe of six and " + more, Due.settle(x, text + more), -125);
        }
        TaleBans x = new TaleBans();
        due.plain(x, "two faults: the first", Due.settle(x, "s;h60;h13"), -103);
        due.plain(x, "a fault ahead of the end", Due.settle(x, "s;x"), -102);
        due.plain(x, "a person without ;", Due.settle(x, "s;h10h20"), -105);
    }

    private static void textsThatEndTooSoon() {
        String text = "s;h10;b31;g52;h21;b12;g40";
        for (int n = 0; n <= text.length(); n++) {
            TaleBans x = new TaleBans();
            Due.write(x, 1, 1, text);
            boolean whole = n >= 9 && n % 4 == 1;
            due.plain(x, "steppe of " + n + " codes", x.steppe(1, 1, 0, n), whole ? n / 4 : -100 - n);
        }
    }

    private static void lanesOfTexts() {
        String text = "s;h10;b31";
        for (int lane = 0; lane < 3; lane++) {
            TaleBans x = new TaleBans();
            Due.write(x, 2, lane, text);
            x.put(2, 0, 115 + 256);
            due.plain(x, "115 + 256 in lane " + lane, x.steppe(2, lane, 0, 9), lane == 0 ? 2 : -100);
            x.put(2, 0, 115 + 65536);
            due.plain(x, "115 + 65536 in lane " + lane, x.steppe(2, lane, 0, 9), lane < 2 ? 2 : -100);
            x.put(2, 0, -115);
            due.plain(x, "-115 in lane " + lane, x.steppe(2, lane, 0, 9), -100);
        }
    }

    private static void faultsOfSteppe() {
        TaleBans x = new TaleBans();
        Due.write(x, 1, 1, "s;h10;b31");
        due.plain(x, "no such sheet, ahead of its lane", x.steppe(4, 3, -1, -1), -1);
        due.plain(x, "no such sheet -1", x.steppe(-1, 1, 0, 9), -1);
        due.plain(x, "no such lane, ahead of CAST", x.steppe(1, 3, -1, -1), -2);
        due.plain(x, "no such lane, ahead of NULL", x.steppe(0, -1, -1, -1), -2);
        due.faulted(x, "CAST ahead of SIZE", x.steppe(1, 2, -1, -1), 2);
        due.faulted(x, "CAST ahead of INDEX", x.steppe(1, 0, -1, 1), 2);
        due.faulted(x, "NULL ahead of SIZE", x.steppe(0, 2, -1, -1), 1);
        due.faulted(x, "SIZE ahead of INDEX", x.steppe(1, 1, -1, -1), 4);
        due.faulted(x, "SIZE of the least", x.steppe(1, 1, 0, MIN), 4);
        due.faulted(x, "INDEX: i below 0", x.steppe(1, 1, -1, 9), 3);
        due.faulted(x, "INDEX: beyond", x.steppe(1, 1, 0, 10), 3);
        due.faulted(x, "INDEX: beyond, from 1 on", x.steppe(1, 1, 1, 9), 3);
        due.faulted(x, "INDEX: none taken, ahead", x.steppe(1, 1, -1, 0), 3);
        due.faulted(x, "INDEX: none taken, beyond", x.steppe(1, 1, 10, 0), 3);
        due.plain(x, "none taken, at the end", x.steppe(1, 1, 9, 0), -100);
        due.faulted(x, "INDEX: i the greatest", x.steppe(1, 1, MAX, 1), 3);
        due.faulted(x, "INDEX: n the greatest", x.steppe(1, 1, 1, MAX), 3);
        due.faulted(x, "INDEX: both the greatest", x.steppe(1, 1, MAX, MAX), 3);
        due.faulted(x, "INDEX: i the least", x.steppe(1, 1, MIN, MAX), 3);
        due.plain(x, "taken", x.steppe(1, 1, 0, 9), 2);
    }

    private static TaleBans full() {
        TaleBans x = Due.steppe("s;h10;b31;g52");
        x.tale(1, 2, 3);
        x.move(0, 1, 2);
        x.need(1, 2);
        x.reading(0, 0, 5, true);
        x.law(2);
        x.pay(1, true);
        x.parody(0, true);
        x.tell(0);
        return x;
    }

    private static void steppeMakesAllAnew() {
        TaleBans x = full();
        due.is("as many tales", x.many(1), 1);
        due.is("anew", Due.settle(x, "s;b20;h31"), 2);
        due.is("anew: many(0)", x.many(0), 2);
        for (int what = 1; what < 6; what++) {
            due.is("anew: many(" + what + ")", x.many(what), 0);
        }
        due.is("anew: law", x.law(0), 0);
        due.is("anew: paid", x.ofPerson(1, 4), 0);
        due.is("anew: person 2", x.ofPerson(2, 0), -1);
        due.is("anew: trace stays", x.trace(), 1);
        due.is("anew: sheet stays", x.cell(3, 0, 2), 's');
        due.is("anew: tale 0", x.tale(0, 0, 0), 0);
        due.is("anew: not parodied", x.parody(0, false), 0);
        due.is("anew: nobody has moved", x.hearth(0, 39), 0);
    }

    private static void steppeNotTakenChangesNothing() {
        TaleBans x = full();
        due.plain(x, "not taken", Due.settle(x, "s;b20;h33"), -108);
        due.faulted(x, "INDEX", x.steppe(3, 2, 1, 9), 3);
        due.is("still: many(0)", x.many(0), 3);
        for (int what = 1; what < 5; what++) {
            due.is("still: many(" + what + ")", x.many(what), 1);
        }
        due.is("still: many(5)", x.many(5), 2);
        due.is("still: kind", x.ofPerson(0, 0), 0);
        due.is("still: paid", x.ofPerson(1, 4), 1);
        due.is("still: parodied", x.parody(0, true), 0);
    }

    private static void ofPerson() {
        TaleBans x = Due.steppe("s;h10;b31;g52;h51;b10;g12");
        int[][] all = {{0, 1, 0, 1, 0}, {1, 3, 1, 5, 0}, {2, 5, 2, 14, 0}, {0, 5, 1, 5, 0}, {1, 1, 0, 3, 0}, {2, 1, 2, 6, 0}};
        for (int p = 0; p < 6; p++) {
            for (int what = 0; what < 5; what++) {
                due.is("ofPerson(" + p + ", " + what + ")", x.ofPerson(p, what), all[p][what]);
            }
        }
        x.pay(4, true);
        due.is("ofPerson of the paid", x.ofPerson(4, 4), 1);
        due.is("ofPerson of another", x.ofPerson(5, 4), 0);
        x.move(0, 2, 0);
        due.is("its hearth at first", x.ofPerson(0, 2), 0);
        due.is("what 5", x.ofPerson(0, 5), -2);
        due.is("what -1", x.ofPerson(0, -1), -2);
        due.is("person 6 ahead of what", x.ofPerson(6, 5), -1);
        due.is("person -1", x.ofPerson(-1, 0), -1);
        due.is("the least person", x.ofPerson(MIN, 0), -1);
        due.is("the greatest person", x.ofPerson(MAX, MIN), -1);
    }

    private static void tale() {
        TaleBans x = Due.steppe("s;h10;b31");
        due.is("deed 6", x.tale(6, 0, 0), -1);
        due.is("deed -1, ahead of season", x.tale(-1, 0, 40), -1);
        due.is("person 2, ahead of season", x.tale(0, 2, -1), -1);
        due.is("person -1", x.tale(0, -1, 0), -1);
        due.is("season 40", x.tale(0, 0, 40), -2);
        due.is("season -1", x.tale(0, 0, -1), -2);
        due.is("none yet", x.many(1), 0);
        for (int t = 0; t < 6; t++) {
            due.is("tale " + t, x.tale(5 - t, t % 2, 39), t);
        }
        due.is("a seventh", x.tale(0, 0, 0), -4);
        due.is("OUTSIDE ahead of FULL", x.tale(0, 0, 40), -2);
        due.is("UNKNOWN ahead of FULL", x.tale(6, 0, 0), -1);
        due.is("many tales", x.many(1), 6);
    }

    private static void undo() {
        TaleBans x = Due.steppe("s;h10;h10");
        x.tale(0, 0, 0);
        x.tale(1, 0, 0);
        x.tale(2, 1, 0);
        x.parody(2, true);
        x.reading(0, 2, 0, true);
        x.reading(0, 1, 0, true);
        x.reading(1, 0, 0, false);
        x.reading(1, 2, 0, true);
        x.reading(1, 1, 1, true);
        due.is("undo(-1)", x.undo(-1), -2);
        due.is("undo(4)", x.undo(4), -2);
        due.is("undo(MIN)", x.undo(MIN), -2);
        due.is("undo(MAX)", x.undo(MAX), -2);
        due.is("undo(0)", x.undo(0), 3);
        due.is("readings stay", x.many(4), 5);
        due.is("undo(1)", x.undo(1), 2);
        due.is("readings of tale 2 are gone", x.many(4), 3);
        due.is("tale 2 anew", x.tale(3, 1, 0), 2);
        due.is("not parodied", x.parody(2, true), 1);
        // What stays is 0: of (0, 1), 1: of (1, 0), 2: of (1, 1): p 1 never hears 0 under LAW 0.
        due.is("the others are so under LAW 0", x.laws() & 1, 0);
        due.is("back(1)", x.back(1), 2);
        due.is("back(1)", x.back(1), 1);
        due.is("0: (0, 1) is so under each law", x.laws(), 7);
        due.is("undo(3)", x.undo(3), 0);
        due.is("no reading stays", x.many(4), 0);
        due.is("nobody remembers", x.remembers(0, 0), 0);
    }

    private static void move() {
        TaleBans x = Due.steppe("s;h10;b31");
        due.is("person 2, ahead of season", x.move(2, 0, 40), -1);
        due.is("person -1", x.move(-1, 0, 0), -1);
        due.is("hearth 3, ahead of season", x.move(0, 3, 40), -1);
        due.is("hearth -1", x.move(0, -1, 0), -1);
        due.is("season 40", x.move(0, 0, 40), -2);
        due.is("season -1", x.move(0, 0, -1), -2);
        for (int k = 0; k < 8; k++) {
            due.is("move " + k, x.move(k % 2, k % 3, 39 - k), k);
        }
        due.is("a ninth", x.move(0, 0, 0), -4);
        due.is("OUTSIDE ahead of FULL", x.move(0, 0, 40), -2);
        due.is("UNKNOWN ahead of FULL", x.move(0, 3, 0), -1);
        due.is("many moves", x.many(2), 8);
    }

    private static void unmove() {
        TaleBans x = Due.steppe("s;h10;b31");
        x.move(0, 1, 3);
        x.move(0, 2, 5);
        x.move(0, 0, 7);
        due.is("unmove(-1)", x.unmove(-1), -2);
        due.is("unmove(4)", x.unmove(4), -2);
        due.is("unmove(0)", x.unmove(0), 3);
        due.is("at 7", x.hearth(0, 7), 0);
        due.is("unmove(1)", x.unmove(1), 2);
        due.is("at 7", x.hearth(0, 7), 2);
        due.is("unmove(2)", x.unmove(2), 0);
        due.is("at 7", x.hearth(0, 7), 0);
        due.is("many moves", x.many(2), 0);
    }

    private static void law() {
        TaleBans x = Due.steppe("s;h10;b31");
        due.is("law(2)", x.law(2), 0);
        due.is("law(3)", x.law(3), -2);
        due.is("law(-1)", x.law(-1), -2);
        due.is("law(1)", x.law(1), 2);
        due.is("many(5)", x.many(5), 1);
        due.is("law(1)", x.law(1), 1);
        due.is("law(0)", x.law(0), 1);
    }

    private static void pay() {
        TaleBans x = Due.steppe("s;h10;b31");
        due.is("not, at first", x.pay(1, false), 0);
        due.is("pay(1)", x.pay(1, true), 1);
        due.is("once more", x.pay(1, true), 0);
        due.is("is paid", x.ofPerson(1, 4), 1);
        due.is("person 0 is not", x.ofPerson(0, 4), 0);
        due.is("not any more", x.pay(1, false), 1);
        due.is("is not paid", x.ofPerson(1, 4), 0);
        due.is("person 2", x.pay(2, true), -1);
        due.is("person -1", x.pay(-1, false), -1);
    }

    private static void parody() {
        TaleBans x = Due.steppe("s;h10;b31");
        due.is("tale 0, not yet", x.parody(0, true), -1);
        x.tale(0, 0, 0);
        x.tale(1, 0, 0);
        due.is("not, at first", x.parody(1, false), 0);
        due.is("parody(1)", x.parody(1, true), 1);
        due.is("once more", x.parody(1, true), 0);
        due.is("tale 0 is not", x.parody(0, false), 0);
        due.is("not any more", x.parody(1, false), 1);
        due.is("tale 2", x.parody(2, true), -1);
        due.is("tale -1", x.parody(-1, true), -1);
    }
}
