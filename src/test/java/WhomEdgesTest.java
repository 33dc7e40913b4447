/** The edges that the document names of promises 17 to 21, and of the Terms that they use, one by one. */
public final class WhomEdgesTest {
    private static final int MIN = Integer.MIN_VALUE, MAX = Integer.MAX_VALUE;
    private static final Due due = new Due();

    public static void main(String[] args) {
        nobodyToBePaid();
        allToBePaid();
        notByAll();
        fewerAheadOfLesser();
        leastOfSeveral();
        moreThanArePaid();
        nobodyIsPaidByFewest();
        fewestInFirstAndLastSeason();
        longestNever();
        longestNeverOfSeveral();
        longestOfSeveral();
        longestInTheLastSeason();
        longestOfTheLastPerson();
        longestBehindFiveTales();
        longestBehindSixTales();
        longestTellsNoTale();
        longestIsToldByLaw();
        sixNeeds();
        needsOfOneDeed();
        needsOfUnknownDeeds();
        needWithoutSteppe();
        noNeeds();
        oneDeedIsNotForbidden();
        clashInTheFirstSeason();
        clashInTheLastSeason();
        clashOfSeveralNeeds();
        clashOfTheFirstSeasonFirst();
        clashOfParodies();
        planOfNoDeeds();
        planOfAllSeasons();
        planBeyondTheLastSeason();
        planOfTheLastSeason();
        firstPlaceOfPlan();
        laterSeasonsOfPlan();
        unknownDeedsOfPlan();
        cellsOfPlan();
        lanesOfPlan();
        planOfNothing();
        due.finish();
    }

    private static TaleBans payAll(TaleBans x) {
        for (int p = 0; p < x.many(0); p++) {
            x.pay(p, true);
        }
        return x;
    }

    // ---- FEWEST

    private static void nobodyToBePaid() {
        due.sentence("==== 3: FEWEST: the fewest PERSONS to be PAID so that it is not FORBIDDEN in it (none: an empty set)");
        TaleBans x = Due.steppe("s;h10;h10");
        due.is("fewest(0, 0)", x.fewest(0, 0), 0);
        x.tale(0, 0, 1);
        due.is("fewest(0, 0), ahead of the tale", x.fewest(0, 0), 0);
        due.is("fewest(5, 1), another deed", x.fewest(5, 1), 0);
    }

    private static void allToBePaid() {
        due.sentence("==== 3: FEWEST: the fewest PERSONS to be PAID so that it is not FORBIDDEN in it (all six)");
        TaleBans x = Due.steppe("s;h10;h10;h10;h10;h10;h10");
        x.tale(5, 3, 0);
        due.is("fewest(5, 2)", x.fewest(5, 2), 63);
        due.is("fewest(5, 39)", x.fewest(5, 39), 63);
    }

    private static void notByAll() {
        due.sentence("==== 3: FEWEST: NONE: not by all");
        TaleBans x = Due.steppe("s;h10;h10;h10;h10;h10;h10");
        x.tale(5, 3, 0);
        due.is("fewest(5, 0)", x.fewest(5, 0), -9);
        due.is("fewest(5, 1)", x.fewest(5, 1), -9);
        payAll(x);
        due.is("fewest(5, 1), all are paid", x.fewest(5, 1), -9);
        due.is("fewest(5, 2), all are paid", x.fewest(5, 2), 0);
    }

    /** 2 brings tale 0 to hearth 0 in season 2, unless it is paid; tale 1 drives it out there, unless 0 or 1 listens. */
    private static void fewerAheadOfLesser() {
        due.sentence("==== 3: FEWEST: the fewest PERSONS (one of a greater number rather than two of lesser ones)");
        TaleBans x = Due.steppe("s;b20;h20;h11");
        x.law(2);
        x.tale(0, 2, 0);
        x.tale(1, 0, 1);
        x.move(2, 0, 2);
        due.is("fewest(0, 6)", x.fewest(0, 6), 4);
        x.pay(0, true);
        x.pay(1, true);
        due.is("{0, 1} would do it, too", x.fewest(0, 6), 0);
        x.pay(1, false);
        due.is("0 alone does not", x.forbidden(6) & 1, 1);
    }

    private static void leastOfSeveral() {
        due.sentence("==== 3: FEWEST: as a set: of several the least");
        TaleBans x = Due.steppe("s;h10;b11");
        x.law(2);
        x.tale(0, 0, 0);
        x.tale(1, 0, 2);
        x.move(0, 1, 2);
        due.is("fewest(0, 4)", x.fewest(0, 4), 1);
        x.pay(1, true);
        due.is("the greater one does it, too", x.fewest(0, 4), 0);
    }

    private static void moreThanArePaid() {
        due.sentence("==== 3: FEWEST: PERSONS to be PAID (more than are)");
        TaleBans x = Due.steppe("s;h10;h10;h10");
        x.tale(0, 0, 0);
        int[] more = {7, 6, 4, 0};
        for (int p = 0; p < 4; p++) {
            due.is("fewest(0, 2), of " + p + " paid", x.fewest(0, 2), more[p]);
            x.pay(p, true);
        }
        x.pay(1, false);
        due.is("fewest(0, 2), all but 1", x.fewest(0, 2), 2);
    }

    private static void nobodyIsPaidByFewest() {
        due.sentence("Promise 17: FEWEST, as a set (which pays nobody)");
        TaleBans x = Due.steppe("s;h10;h10;h10");
        x.tale(0, 0, 0);
        x.pay(1, true);
        due.is("fewest(0, 2)", x.fewest(0, 2), 5);
        for (int p = 0; p < 3; p++) {
            due.is("ofPerson(" + p + ", 4)", x.ofPerson(p, 4), p == 1 ? 1 : 0);
        }
        due.is("forbidden(2)", x.forbidden(2), 1);
    }

    private static void fewestInFirstAndLastSeason() {
        due.sentence("Promise 17: UNKNOWN; OUTSIDE; STATE: there is no STEPPE");
        TaleBans x = Due.steppe("s;h10;h11");
        x.tale(5, 1, 0);
        due.is("fewest(5, 39)", x.fewest(5, 39), 2);
        due.is("fewest(5, 40)", x.fewest(5, 40), -2);
        due.is("fewest(5, 0)", x.fewest(5, 0), -9);
        due.is("fewest(5, -1)", x.fewest(5, -1), -2);
        due.is("fewest(6, 0)", x.fewest(6, 0), -1);
        due.is("fewest(-1, 0)", x.fewest(-1, 0), -1);
        due.is("fewest(0, 0)", new TaleBans().fewest(0, 0), -3);
    }

    // ---- LONGEST

    private static void longestIs(TaleBans x, int season, int who, int dies) {
        due.is("longest(" + season + ", 0)", x.longest(season, 0), who);
        due.is("longest(" + season + ", 1)", x.longest(season, 1), dies);
    }

    private static void longestNever() {
        due.sentence("==== 3: LONGEST: (never: latest of all)");
        // 0 would remember it till 38, so that it dies in 39; with 1 it never does.
        TaleBans x = payAll(Due.steppe("s;g50;h11"));
        x.pay(1, false);
        longestIs(x, 24, 1, -9);
        longestIs(x, 0, 1, -9);
        x.pay(1, true);
        longestIs(x, 24, 0, 39);
        longestIs(x, 25, 0, -9);
    }

    private static void longestNeverOfSeveral() {
        due.sentence("==== 3: LONGEST: (never ..): of several the least");
        TaleBans x = Due.steppe("s;h10;g51;h52");
        longestIs(x, 0, 0, -9);
        x.pay(0, true);
        longestIs(x, 0, 1, -9);
    }

    private static void longestOfSeveral() {
        due.sentence("==== 3: LONGEST: the one by which that DIES the latest: of several the least");
        TaleBans x = payAll(Due.steppe("s;h10;h31;b10;h32;h20"));
        longestIs(x, 0, 1, 4);
        x = payAll(Due.steppe("s;h50;b31"));
        longestIs(x, 10, 0, 16);
        x = payAll(Due.steppe("s;h40;b31"));
        longestIs(x, 10, 1, 16);
    }

    private static void longestInTheLastSeason() {
        due.sentence("Promise 18: the SEASON in which it DIES (1; NONE: never)");
        TaleBans x = payAll(Due.steppe("s;h10;h51"));
        longestIs(x, 33, 1, 39);
        longestIs(x, 34, 1, -9);
        longestIs(x, 37, 1, -9);
        longestIs(x, 38, 0, -9);
        longestIs(x, 39, 0, -9);
        due.is("longest(40, 0)", x.longest(40, 0), -2);
        due.is("longest(-1, 0)", x.longest(-1, 0), -2);
        longestIs(x, 0, 1, 6);
        due.is("longest(0, 2)", x.longest(0, 2), -2);
        due.is("longest(0, -1)", x.longest(0, -1), -2);
    }

    private static void longestOfTheLastPerson() {
        due.sentence("Promise 18: LONGEST: the PERSON (the last of six)");
        TaleBans x = payAll(Due.steppe("s;h10;h11;h12;h10;h11;h22"));
        longestIs(x, 0, 5, 3);
    }

    private static void longestBehindFiveTales() {
        due.sentence("Promise 18: FULL: no TALE more may be (the sixth may)");
        TaleBans x = payAll(Due.steppe("s;h10;h21"));
        for (int t = 0; t < 5; t++) {
            longestIs(x, 0, 1, 3);
            x.tale(0, 0, 0);
        }
        longestIs(x, 0, 1, 3);
        due.is("many(1)", x.many(1), 5);
    }

    private static void longestBehindSixTales() {
        due.sentence("Promise 18: FULL: no TALE more may be (a seventh)");
        TaleBans x = Due.steppe("s;h10;h21");
        for (int t = 0; t < 6; t++) {
            x.tale(0, 0, 0);
        }
        longestIs(x, 0, -4, -4);
        due.is("longest(40, 0)", x.longest(40, 0), -2);
        x.undo(1);
        longestIs(x, 0, 0, -9);
    }

    private static void longestTellsNoTale() {
        due.sentence("==== 3: LONGEST: one TALE more comes to a PERSON in it (and none is there then)");
        TaleBans x = Due.steppe("s;h10;h21");
        x.tale(3, 0, 5);
        x.reading(0, 0, 5, true);
        longestIs(x, 0, 0, -9);
        due.is("many(1)", x.many(1), 1);
        due.is("many(4)", x.many(4), 1);
        due.is("forbidden(39)", x.forbidden(39), 8);
        due.is("forbidden(4)", x.forbidden(4), 0);
        due.is("tale(0, 0, 0)", x.tale(0, 0, 0), 1);
    }

    private static void longestIsToldByLaw() {
        due.sentence("==== 3: LONGEST: one TALE more (of the greatest number, with those there are)");
        TaleBans x = Due.steppe("s;h20;h30");
        x.tale(0, 0, 0);
        longestIs(x, 1, 0, -9);
        x.law(1);
        longestIs(x, 1, 1, 5);
        x.law(2);
        longestIs(x, 1, 0, -9);
    }

    // ---- NEEDS

    private static void sixNeeds() {
        due.sentence("==== 3: NEEDS, 6 at most, each numbered by how many there are ahead of it (the first one 0)");
        TaleBans x = Due.steppe("s;h10;h10");
        for (int k = 0; k < 6; k++) {
            due.is("need " + k, x.need(k, 5 - k), k);
        }
        due.is("a seventh", x.need(0, 0), -4);
        due.is("many(3)", x.many(3), 6);
    }

    private static void needsOfOneDeed() {
        due.sentence("==== 3: of two DEEDS (perhaps one)");
        TaleBans x = Due.steppe("s;h10;h10");
        x.tale(5, 0, 3);
        due.is("need(5, 5)", x.need(5, 5), 0);
        due.is("clash(0)", x.clash(0), 3);
        due.is("clash(1)", x.clash(1), 0);
    }

    private static void needsOfUnknownDeeds() {
        due.sentence("Promise 19: UNKNOWN: DEEDS");
        TaleBans x = Due.steppe("s;h10;h10");
        due.is("need(-1, 0)", x.need(-1, 0), -1);
        due.is("need(0, -1)", x.need(0, -1), -1);
        due.is("need(6, 5)", x.need(6, 5), -1);
        due.is("need(5, 6)", x.need(5, 6), -1);
        due.is("many(3)", x.many(3), 0);
        due.is("need(0, 5)", x.need(0, 5), 0);
        due.is("need(5, 0)", x.need(5, 0), 1);
    }

    private static void needWithoutSteppe() {
        due.sentence("Promise 19: STATE: there is no STEPPE");
        TaleBans x = new TaleBans();
        due.is("need(0, 5)", x.need(0, 5), -3);
        due.is("need(6, 0)", x.need(6, 0), -1);
        due.is("need(0, 6)", x.need(0, 6), -1);
        due.is("many(3)", x.many(3), 0);
        Due.settle(x, "s;h10;h10");
        due.is("need(0, 5) on one", x.need(0, 5), 0);
    }

    private static void clashIs(TaleBans x, int season, int need) {
        due.is("clash(0)", x.clash(0), season);
        due.is("clash(1)", x.clash(1), need);
    }

    private static void noNeeds() {
        due.sentence("Promise 20: NONE: all are met (and there are none)");
        TaleBans x = Due.steppe("s;h10;h10");
        x.tale(0, 0, 0);
        clashIs(x, -9, -9);
        due.is("clash(2)", x.clash(2), -2);
        due.is("clash(-1)", x.clash(-1), -2);
    }

    private static void oneDeedIsNotForbidden() {
        due.sentence("==== 3: of two DEEDS one at least must not be FORBIDDEN");
        TaleBans x = Due.steppe("s;h10;h11");
        x.tale(0, 0, 0);
        x.need(0, 1);
        x.need(1, 0);
        clashIs(x, -9, -9);
        x.tale(1, 1, 20);
        clashIs(x, 20, 0);
    }

    private static void clashInTheFirstSeason() {
        due.sentence("==== 3: CLASH: the first SEASON in which one NEED is not met (0)");
        TaleBans x = Due.steppe("s;h10;h11");
        x.tale(0, 0, 0);
        x.need(1, 1);
        x.need(0, 0);
        clashIs(x, 0, 1);
    }

    private static void clashInTheLastSeason() {
        due.sentence("==== 3: CLASH: the first SEASON in which one NEED is not met (39)");
        TaleBans x = Due.steppe("s;h10;h11");
        x.tale(4, 0, 39);
        x.tale(5, 1, 39);
        x.need(4, 5);
        clashIs(x, 39, 0);
    }

    private static void clashOfSeveralNeeds() {
        due.sentence("==== 3: NEED: of several the least");
        TaleBans x = Due.steppe("s;h10;h11");
        x.tale(4, 0, 2);
        x.need(0, 1);
        for (int k = 0; k < 4; k++) {
            x.need(4, 4);
        }
        clashIs(x, 2, 1);
    }

    private static void clashOfTheFirstSeasonFirst() {
        due.sentence("==== 3: CLASH: the first SEASON; NEED: (one that is not met in it, though of the greatest number)");
        TaleBans x = Due.steppe("s;h10;h11");
        x.tale(4, 0, 3);
        x.tale(5, 1, 2);
        for (int k = 0; k < 5; k++) {
            x.need(4, 4);
        }
        x.need(5, 5);
        clashIs(x, 2, 5);
    }

    private static void clashOfParodies() {
        due.sentence("==== 3: CLASH: the first SEASON in which one NEED is not met (parodies forbid nothing in 6)");
        TaleBans x = Due.steppe("s;h10;h11");
        x.tale(4, 0, 6);
        x.need(4, 4);
        clashIs(x, 6, 0);
        x.parody(0, true);
        clashIs(x, 7, 0);
    }

    // ---- PLANS

    private static void planOfNoDeeds() {
        due.sentence("Promise 21: A PLAN of n such cells (none): NONE: none is");
        TaleBans x = Due.steppe("s;h10;h11");
        x.tale(0, 0, 0);
        x.sheet(0, 0, 0);
        x.sheet(1, 0, 60);
        due.plain(x, "plan(0, 0, 0, 0, 0)", x.plan(0, 0, 0, 0, 0), -9);
        due.plain(x, "plan(39, 0, 0, 0, 0)", x.plan(39, 0, 0, 0, 0), -9);
        due.plain(x, "plan(39, 1, 0, 60, 0)", x.plan(39, 1, 0, 60, 0), -9);
        due.faulted(x, "plan(0, 0, 0, 1, 0)", x.plan(0, 0, 0, 1, 0), 3);
        due.faulted(x, "plan(0, 1, 0, 61, 0)", x.plan(0, 1, 0, 61, 0), 3);
        due.faulted(x, "plan(0, 1, 0, -1, 0)", x.plan(0, 1, 0, -1, 0), 3);
    }

    private static void planOfAllSeasons() {
        due.sentence("==== 3: A PLAN: DEEDS one behind another, one a SEASON from a SEASON on (40 of them)");
        TaleBans x = Due.steppe("s;h10;h11");
        x.sheet(0, 0, 60);
        due.plain(x, "plan(0, 0, 0, 0, 40)", x.plan(0, 0, 0, 0, 40), -9);
        due.plain(x, "plan(0, 0, 0, 20, 40)", x.plan(0, 0, 0, 20, 40), -9);
        x.tale(5, 0, 39);
        due.plain(x, "plan(0, 0, 0, 0, 40)", x.plan(0, 0, 0, 0, 40), -9);
        x.put(0, 39, 5);
        due.plain(x, "plan(0, 0, 0, 0, 40)", x.plan(0, 0, 0, 0, 40), 39);
        due.plain(x, "plan(0, 0, 0, 0, 39)", x.plan(0, 0, 0, 0, 39), -9);
        due.plain(x, "plan(0, 0, 0, 20, 40)", x.plan(0, 0, 0, 20, 40), -9);
        due.plain(x, "plan(20, 0, 0, 20, 20)", x.plan(20, 0, 0, 20, 20), 19);
    }

    private static void planBeyondTheLastSeason() {
        due.sentence("Promise 21: OUTSIDE: it goes beyond SEASON 39");
        TaleBans x = Due.steppe("s;h10;h11");
        x.sheet(0, 0, 60);
        due.plain(x, "plan(0, 0, 0, 0, 41)", x.plan(0, 0, 0, 0, 41), -2);
        due.plain(x, "plan(0, 0, 0, 0, 60)", x.plan(0, 0, 0, 0, 60), -2);
        due.plain(x, "plan(1, 0, 0, 0, 40)", x.plan(1, 0, 0, 0, 40), -2);
        due.plain(x, "plan(1, 0, 0, 0, 39)", x.plan(1, 0, 0, 0, 39), -9);
        due.plain(x, "plan(39, 0, 0, 0, 2)", x.plan(39, 0, 0, 0, 2), -2);
        due.plain(x, "plan(39, 0, 0, 0, 60)", x.plan(39, 0, 0, 0, 60), -2);
        due.faulted(x, "plan(39, 0, 0, 0, 61)", x.plan(39, 0, 0, 0, 61), 3);
        due.faulted(x, "plan(39, 0, 0, 0, MAX)", x.plan(39, 0, 0, 0, MAX), 3);
        due.faulted(x, "plan(39, 0, 0, MAX, MAX)", x.plan(39, 0, 0, MAX, MAX), 3);
        due.faulted(x, "plan(39, 0, 0, 0, MIN)", x.plan(39, 0, 0, 0, MIN), 4);
    }

    private static void planOfTheLastSeason() {
        due.sentence("Promise 21: from a SEASON on .. OUTSIDE: season");
        TaleBans x = Due.steppe("s;h10;h11");
        x.tale(2, 0, 39);
        Due.writeNumbers(x, 0, 0, 2);
        due.plain(x, "plan(39, 0, 0, 0, 1)", x.plan(39, 0, 0, 0, 1), 0);
        due.plain(x, "plan(38, 0, 0, 0, 1)", x.plan(38, 0, 0, 0, 1), -9);
        due.plain(x, "plan(40, 0, 0, 0, 0)", x.plan(40, 0, 0, 0, 0), -2);
        due.plain(x, "plan(-1, 0, 0, 0, 0)", x.plan(-1, 0, 0, 0, 0), -2);
        due.plain(x, "plan(0, 0, 0, 0, 1)", x.plan(0, 0, 0, 0, 1), -9);
    }

    private static void firstPlaceOfPlan() {
        due.sentence("==== 3: the first (its place among them, from 0 on) that is FORBIDDEN in its SEASON");
        TaleBans x = Due.steppe("s;h10;h11");
        x.tale(2, 0, 10);
        Due.writeNumbers(x, 0, 1, 2, 2, 2, 2);
        due.plain(x, "plan(6, 0, 1, 0, 4)", x.plan(6, 0, 1, 0, 4), -9);
        due.plain(x, "plan(7, 0, 1, 0, 4)", x.plan(7, 0, 1, 0, 4), 3);
        due.plain(x, "plan(9, 0, 1, 0, 4)", x.plan(9, 0, 1, 0, 4), 1);
        due.plain(x, "plan(10, 0, 1, 0, 4)", x.plan(10, 0, 1, 0, 4), 0);
        due.plain(x, "plan(9, 0, 1, 2, 2)", x.plan(9, 0, 1, 2, 2), 1);
        due.plain(x, "plan(9, 0, 1, 3, 1)", x.plan(9, 0, 1, 3, 1), -9);
    }

    private static void laterSeasonsOfPlan() {
        due.sentence("==== 3: FORBIDDEN in its SEASON (and not in another one)");
        TaleBans x = payAll(Due.steppe("s;h10;h11"));
        x.tale(2, 0, 10);
        Due.writeNumbers(x, 0, 1, 2, 0, 0, 2);
        // Deed 2 is forbidden in 10 and 11 alone.
        due.plain(x, "plan(9, 0, 1, 0, 4)", x.plan(9, 0, 1, 0, 4), -9);
        due.plain(x, "plan(8, 0, 1, 0, 4)", x.plan(8, 0, 1, 0, 4), 3);
        due.plain(x, "plan(11, 0, 1, 0, 4)", x.plan(11, 0, 1, 0, 4), 0);
        due.plain(x, "plan(12, 0, 1, 0, 4)", x.plan(12, 0, 1, 0, 4), -9);
    }

    private static void unknownDeedsOfPlan() {
        due.sentence("Promise 21: UNKNOWN: a DEED");
        TaleBans x = Due.steppe("s;h10;h11");
        x.tale(5, 0, 0);
        Due.writeNumbers(x, 0, 2, 0, 5, 6, -1, MAX, MIN, 0);
        due.plain(x, "0", x.plan(0, 0, 2, 0, 1), -9);
        due.plain(x, "0, 5", x.plan(0, 0, 2, 0, 2), 1);
        due.plain(x, "6", x.plan(0, 0, 2, 2, 1), -1);
        due.plain(x, "5, 6, though 5 is forbidden", x.plan(0, 0, 2, 1, 2), -1);
        due.plain(x, "-1", x.plan(0, 0, 2, 3, 1), -1);
        due.plain(x, "the greatest", x.plan(0, 0, 2, 4, 1), -1);
        due.plain(x, "the least", x.plan(0, 0, 2, 5, 1), -1);
        due.plain(x, "the least, then 0", x.plan(0, 0, 2, 5, 2), -1);
        due.plain(x, "0 behind it", x.plan(0, 0, 2, 6, 1), -9);
        due.plain(x, "beyond season 39 ahead of it", x.plan(39, 0, 2, 2, 2), -2);
    }

    private static void cellsOfPlan() {
        due.sentence("Promise 21: CAST; NULL; SIZE; INDEX");
        TaleBans x = Due.steppe("s;h10;h11");
        x.sheet(0, 1, 3);
        due.plain(x, "plan(0, 0, 1, 0, 3)", x.plan(0, 0, 1, 0, 3), -9);
        due.faulted(x, "CAST", x.plan(0, 0, 0, -1, -1), 2);
        due.faulted(x, "NULL", x.plan(0, 1, 0, -1, -1), 1);
        due.faulted(x, "SIZE", x.plan(0, 0, 1, -1, -1), 4);
        due.faulted(x, "INDEX: one too many", x.plan(0, 0, 1, 0, 4), 3);
        due.faulted(x, "INDEX: one too far", x.plan(0, 0, 1, 1, 3), 3);
        due.faulted(x, "INDEX: below 0", x.plan(0, 0, 1, -1, 3), 3);
    }

    private static void lanesOfPlan() {
        due.sentence("Promise 21: n such cells (taken as a row of a LANE) .. OUTSIDE: lane");
        TaleBans x = Due.steppe("s;h10;h11");
        x.tale(5, 0, 0);
        for (int lane = 0; lane < 3; lane++) {
            Due.writeNumbers(x, 0, lane, 5 + 256, 5 + 65536, 5);
            due.plain(x, "261 in lane " + lane, x.plan(0, 0, lane, 0, 1), lane == 0 ? 0 : -1);
            due.plain(x, "65541 in lane " + lane, x.plan(0, 0, lane, 1, 1), lane < 2 ? 0 : -1);
            due.plain(x, "5 in lane " + lane, x.plan(0, 0, lane, 2, 1), 0);
            due.faulted(x, "as of another lane", x.plan(0, 0, (lane + 1) % 3, 2, 1), 2);
        }
        due.plain(x, "lane 3", x.plan(0, 0, 3, 0, 1), -2);
        due.plain(x, "lane -1", x.plan(0, 0, -1, 0, 1), -2);
    }

    private static void planOfNothing() {
        due.sentence("Promise 21: UNKNOWN: SHEET; .. STATE: there is no STEPPE; CAST; NULL (nothing is no CAST)");
        TaleBans x = new TaleBans();
        due.plain(x, "plan(0, 0, 0, 0, -1) without a steppe", x.plan(0, 0, 0, 0, -1), -3);
        due.plain(x, "plan(0, 4, 0, 0, 0) without a steppe", x.plan(0, 4, 0, 0, 0), -1);
        Due.settle(x, "s;h10;h11");
        for (int lane = 0; lane < 3; lane++) {
            due.faulted(x, "plan of nothing", x.plan(0, 0, lane, 0, 0), 1);
        }
        due.plain(x, "plan(0, 4, 0, 0, 0)", x.plan(0, 4, 0, 0, 0), -1);
        due.plain(x, "plan(0, -1, 0, 0, 0)", x.plan(0, -1, 0, 0, 0), -1);
    }
}
