/** The edges that the document names of promises 11 to 16, and of the Terms that they use, one by one. */
public final class SeasonsEdgesTest {
    private static final Due due = new Due();

    public static void main(String[] args) {
        firstAndLastSeason();
        firstAndLastPerson();
        firstAndLastHearth();
        noTales();
        leastMemory();
        greatestMemory();
        memoryCountsFromTheLastHearing();
        heardInThisSeason();
        whoeverIsPaidHearsWhatComes();
        whoeverIsPaidHearsNothingElse();
        movesOfOneSeasonByNumbers();
        movesAheadOfAll();
        movesInTheLastSeason();
        moveToWhereItIs();
        movesOfAll();
        greatestOfSix();
        leastOfSix();
        longestAgoOfSix();
        neverToldAheadOfAll();
        neverToldTheLeastOfSeveral();
        toldAtAnotherHearth();
        toldOfWhoRemembersThere();
        toldAtAnEmptyHearth();
        forbiddenAsItEnds();
        allDeedsForbidden();
        oneDeedOfTwoTales();
        seasonsOfParodies();
        parodiedOneIsRemembered();
        parodyOfOneTale();
        diesBehindItsSeason();
        diesInTheLastSeason();
        diesNotTillTheLastSeason();
        aTaleOfTheLastSeason();
        freeAtOnce();
        freeInTheLastSeason();
        freeNotTillTheLastSeason();
        freeOfWhatComesLater();
        due.finish();
    }

    private static TaleBans payAll(TaleBans x) {
        for (int p = 0; p < x.many(0); p++) {
            x.pay(p, true);
        }
        return x;
    }

    private static void firstAndLastSeason() {
        due.sentence("==== 2: SEASONS 0 .. 39");
        TaleBans x = Due.steppe("s;h10;h11");
        x.tale(0, 0, 0);
        x.tale(5, 1, 39);
        due.is("remembers(0, -1)", x.remembers(0, -1), -2);
        due.is("remembers(0, 0)", x.remembers(0, 0), 1);
        due.is("remembers(1, 38)", x.remembers(1, 38), 0);
        due.is("remembers(1, 39)", x.remembers(1, 39), 2);
        due.is("remembers(1, 40)", x.remembers(1, 40), -2);
        due.is("hearth(0, -1)", x.hearth(0, -1), -2);
        due.is("hearth(1, 0)", x.hearth(1, 0), 1);
        due.is("hearth(1, 39)", x.hearth(1, 39), 1);
        due.is("hearth(0, 40)", x.hearth(0, 40), -2);
        due.is("told(0, -1)", x.told(0, -1), -2);
        due.is("told(0, 0)", x.told(0, 0), 0);
        due.is("told(1, 38)", x.told(1, 38), -9);
        due.is("told(1, 39)", x.told(1, 39), 1);
        due.is("told(1, 40)", x.told(1, 40), -2);
        due.is("forbidden(-1)", x.forbidden(-1), -2);
        due.is("forbidden(0)", x.forbidden(0), 1);
        due.is("forbidden(38)", x.forbidden(38), 1);
        due.is("forbidden(39)", x.forbidden(39), 33);
        due.is("forbidden(40)", x.forbidden(40), -2);
        due.is("free(5, -1)", x.free(5, -1), -2);
        due.is("free(5, 0)", x.free(5, 0), 0);
        due.is("free(5, 38)", x.free(5, 38), 38);
        due.is("free(5, 39)", x.free(5, 39), -9);
        due.is("free(5, 40)", x.free(5, 40), -2);
    }

    private static void firstAndLastPerson() {
        due.sentence("Promises 11 and 12: of a PERSON .. UNKNOWN");
        TaleBans x = Due.steppe("s;h10;h11;h12;h10;h11;h12");
        x.tale(0, 5, 0);
        due.is("remembers(-1, 0)", x.remembers(-1, 0), -1);
        due.is("remembers(5, 0)", x.remembers(5, 0), 1);
        due.is("remembers(6, 0)", x.remembers(6, 0), -1);
        due.is("hearth(-1, 0)", x.hearth(-1, 0), -1);
        due.is("hearth(5, 0)", x.hearth(5, 0), 2);
        due.is("hearth(6, 0)", x.hearth(6, 0), -1);
        x = Due.steppe("s;h10;h11");
        due.is("remembers(1, 0) of two", x.remembers(1, 0), 0);
        due.is("remembers(2, 0) of two", x.remembers(2, 0), -1);
        due.is("hearth(1, 0) of two", x.hearth(1, 0), 1);
        due.is("hearth(2, 0) of two", x.hearth(2, 0), -1);
    }

    private static void firstAndLastHearth() {
        due.sentence("Promise 13: The TALE that is TOLD at a HEARTH .. UNKNOWN");
        TaleBans x = Due.steppe("s;h10;h12");
        x.tale(0, 0, 0);
        x.tale(0, 1, 0);
        due.is("told(-1, 0)", x.told(-1, 0), -1);
        due.is("told(0, 0)", x.told(0, 0), 0);
        due.is("told(1, 0)", x.told(1, 0), -9);
        due.is("told(2, 0)", x.told(2, 0), 1);
        due.is("told(3, 0)", x.told(3, 0), -1);
    }

    private static void noTales() {
        due.sentence("Promise 13: NONE: none");
        TaleBans x = Due.steppe("s;h10;h12");
        for (int season : new int[] {0, 6, 39}) {
            for (int hearth = 0; hearth < 3; hearth++) {
                due.is("told(" + hearth + ", " + season + ")", x.told(hearth, season), -9);
            }
            due.is("remembers(0, " + season + ")", x.remembers(0, season), 0);
            due.is("forbidden(" + season + ")", x.forbidden(season), 0);
            due.is("free(0, " + season + ")", x.free(0, season), season);
        }
        due.is("dies(0)", x.dies(0), -1);
    }

    private static void leastMemory() {
        due.sentence("==== 2: REMEMBERS: who HEARD it in this SEASON, or no more than MEMORY SEASONS ahead of it (1)");
        TaleBans x = payAll(Due.steppe("s;h10;h11"));
        x.tale(0, 0, 0);
        due.is("remembers(0, 0)", x.remembers(0, 0), 1);
        due.is("remembers(0, 1)", x.remembers(0, 1), 1);
        due.is("remembers(0, 2)", x.remembers(0, 2), 0);
    }

    private static void greatestMemory() {
        due.sentence("==== 2: REMEMBERS: who HEARD it in this SEASON, or no more than MEMORY SEASONS ahead of it (14)");
        TaleBans x = payAll(Due.steppe("s;g50;h11"));
        x.tale(0, 0, 25);
        due.is("remembers(0, 24)", x.remembers(0, 24), 0);
        due.is("remembers(0, 25)", x.remembers(0, 25), 1);
        due.is("remembers(0, 38)", x.remembers(0, 38), 1);
        due.is("remembers(0, 39)", x.remembers(0, 39), 1);
        x.undo(1);
        x.tale(0, 0, 24);
        due.is("remembers(0, 38)", x.remembers(0, 38), 1);
        due.is("remembers(0, 39)", x.remembers(0, 39), 0);
    }

    /** Tale 0 is told in seasons 0 to 2, then tale 1 by LAW 0: it was heard last in 2. */
    private static void memoryCountsFromTheLastHearing() {
        due.sentence("==== 2: REMEMBERS: .. no more than MEMORY SEASONS ahead of it, if it was HEARD more than once");
        TaleBans x = Due.steppe("s;h20;h11");
        x.tale(0, 0, 0);
        x.tale(1, 0, 3);
        due.is("told(0, 2)", x.told(0, 2), 0);
        due.is("told(0, 3)", x.told(0, 3), 1);
        due.is("remembers(0, 4)", x.remembers(0, 4), 3);
        due.is("remembers(0, 5)", x.remembers(0, 5), 2);
        due.is("dies(0)", x.dies(0), 5);
    }

    /** What comes to the first of a hearth is told there in the same season, and heard by the others. */
    private static void heardInThisSeason() {
        due.sentence("==== 2: REMEMBERS: who HEARD it in this SEASON");
        TaleBans x = Due.steppe("s;h10;h10;h11");
        x.tale(0, 1, 4);
        due.is("told(0, 3)", x.told(0, 3), -9);
        due.is("told(0, 4)", x.told(0, 4), 0);
        due.is("remembers(0, 3)", x.remembers(0, 3), 0);
        due.is("remembers(0, 4)", x.remembers(0, 4), 1);
        due.is("remembers(2, 4)", x.remembers(2, 4), 0);
    }

    private static void whoeverIsPaidHearsWhatComes() {
        due.sentence("==== 2: whom a TALE of it comes to HEARS it (PAID, too)");
        TaleBans x = payAll(Due.steppe("s;h10;h10"));
        x.tale(0, 0, 0);
        x.tale(0, 1, 39);
        due.is("remembers(0, 0)", x.remembers(0, 0), 1);
        due.is("remembers(1, 0)", x.remembers(1, 0), 0);
        due.is("remembers(1, 39)", x.remembers(1, 39), 2);
        due.is("remembers(0, 39)", x.remembers(0, 39), 0);
    }

    private static void whoeverIsPaidHearsNothingElse() {
        due.sentence("==== 2: All there HEAR it, but those who are PAID");
        TaleBans x = Due.steppe("s;h50;h10;h10");
        x.pay(1, true);
        x.tale(0, 0, 0);
        due.is("remembers(0, 39)", x.remembers(0, 39), 1);
        due.is("remembers(1, 0)", x.remembers(1, 0), 0);
        due.is("remembers(1, 39)", x.remembers(1, 39), 0);
        due.is("remembers(2, 0)", x.remembers(2, 0), 1);
        x.pay(0, true);
        x.pay(2, true);
        // 0 was told, but did not listen: it remembers what came to it, and no longer.
        due.is("remembers(0, 5)", x.remembers(0, 5), 1);
        due.is("remembers(0, 6)", x.remembers(0, 6), 0);
        due.is("remembers(2, 0)", x.remembers(2, 0), 0);
    }

    private static void movesOfOneSeasonByNumbers() {
        due.sentence("==== 2: MOVES (by numbers)");
        TaleBans x = Due.steppe("s;h10;h11");
        x.move(0, 1, 5);
        x.move(1, 0, 5);
        x.move(0, 2, 5);
        due.is("hearth(0, 4)", x.hearth(0, 4), 0);
        due.is("hearth(0, 5)", x.hearth(0, 5), 2);
        due.is("hearth(1, 5)", x.hearth(1, 5), 0);
        x.move(0, 0, 5);
        due.is("hearth(0, 5) with the fourth", x.hearth(0, 5), 0);
        x.move(0, 1, 4);
        due.is("hearth(0, 4) with the fifth", x.hearth(0, 4), 1);
        due.is("hearth(0, 5) with the fifth", x.hearth(0, 5), 0);
    }

    private static void movesAheadOfAll() {
        due.sentence("==== 2: In each SEASON, in order: MOVES; whom a TALE comes to HEARS it; .. TOLD");
        TaleBans x = Due.steppe("s;h10;h11;h11");
        x.tale(0, 0, 0);
        x.move(0, 1, 0);
        due.is("told(0, 0)", x.told(0, 0), -9);
        due.is("told(1, 0)", x.told(1, 0), 0);
        due.is("remembers(2, 0)", x.remembers(2, 0), 1);
        due.is("its hearth at first", x.ofPerson(0, 2), 0);
    }

    private static void movesInTheLastSeason() {
        due.sentence("Promise 12: The HEARTH of a PERSON in a SEASON (behind its MOVES)");
        TaleBans x = Due.steppe("s;h10;h11");
        x.move(0, 2, 39);
        x.move(1, 2, 0);
        due.is("hearth(0, 38)", x.hearth(0, 38), 0);
        due.is("hearth(0, 39)", x.hearth(0, 39), 2);
        due.is("hearth(1, 0)", x.hearth(1, 0), 2);
        due.is("hearth(1, 39)", x.hearth(1, 39), 2);
    }

    private static void moveToWhereItIs() {
        due.sentence("==== 2: in a SEASON a PERSON goes to a HEARTH (where it is)");
        TaleBans x = Due.steppe("s;h10;h10");
        x.tale(0, 0, 0);
        x.move(1, 0, 0);
        due.is("hearth(1, 0)", x.hearth(1, 0), 0);
        due.is("remembers(1, 0)", x.remembers(1, 0), 1);
    }

    private static void movesOfAll() {
        due.sentence("==== 2: in a SEASON a PERSON (each of six) goes to a HEARTH");
        TaleBans x = Due.steppe("s;h10;h10;h10;h10;h10;h10");
        for (int p = 0; p < 6; p++) {
            x.move(p, 1 + p % 2, p);
        }
        for (int p = 0; p < 6; p++) {
            due.is("hearth(" + p + ", " + p + ")", x.hearth(p, p), 1 + p % 2);
            due.is("hearth(" + p + ", 39)", x.hearth(p, 39), 1 + p % 2);
            if (p > 0) {
                due.is("hearth(" + p + ", " + (p - 1) + ")", x.hearth(p, p - 1), 0);
            }
        }
    }

    private static TaleBans sixTales(int law) {
        TaleBans x = Due.steppe("s;g50;h10");
        x.law(law);
        for (int t = 0; t < 6; t++) {
            x.tale(t, 0, 0);
        }
        return x;
    }

    private static void toldIs(TaleBans x, int hearth, int... tales) {
        for (int season = 0; season < tales.length; season++) {
            due.is("told(" + hearth + ", " + season + ")", x.told(hearth, season), tales[season]);
        }
    }

    private static void greatestOfSix() {
        due.sentence("==== 2: LAW 0: the one of the greatest number");
        TaleBans x = sixTales(0);
        toldIs(x, 0, 5, 5, 5);
        due.is("remembers(1, 1)", x.remembers(1, 1), 32);
        due.is("remembers(0, 14)", x.remembers(0, 14), 63);
        due.is("remembers(0, 15)", x.remembers(0, 15), 32);
    }

    private static void leastOfSix() {
        due.sentence("==== 2: 1: of the least");
        TaleBans x = sixTales(1);
        toldIs(x, 0, 0, 0, 0);
        due.is("remembers(1, 1)", x.remembers(1, 1), 1);
        due.is("remembers(0, 14)", x.remembers(0, 14), 63);
        due.is("remembers(0, 15)", x.remembers(0, 15), 1);
    }

    private static void longestAgoOfSix() {
        due.sentence("==== 2: 2: the one that was TOLD there the longest ago");
        TaleBans x = sixTales(2);
        toldIs(x, 0, 0, 1, 2, 3, 4, 5, 0, 1, 2, 3, 4, 5, 0);
        due.is("remembers(1, 1)", x.remembers(1, 1), 3);
        due.is("remembers(1, 2)", x.remembers(1, 2), 6);
        due.is("remembers(0, 39)", x.remembers(0, 39), 63);
    }

    private static void neverToldAheadOfAll() {
        due.sentence("==== 2: (those that never were, ahead of all)");
        TaleBans x = Due.steppe("s;g50;h10");
        x.law(2);
        x.tale(0, 0, 0);
        x.tale(1, 0, 2);
        x.tale(2, 0, 2);
        // Tale 0 alone is told in 0 and 1; then the others, which never were; then it, the longest ago.
        toldIs(x, 0, 0, 0, 1, 2, 0, 1, 2);
        x.undo(2);
        x.tale(1, 0, 1);
        // One that was told in season 0 is behind one that never was.
        toldIs(x, 0, 0, 1, 0, 1);
    }

    private static void neverToldTheLeastOfSeveral() {
        due.sentence("==== 2: of several the least number");
        TaleBans x = Due.steppe("s;g50;h11");
        x.law(2);
        for (int t = 0; t < 4; t++) {
            x.tale(t, 0, 3);
        }
        due.is("told(0, 2)", x.told(0, 2), -9);
        due.is("told(0, 3)", x.told(0, 3), 0);
        due.is("told(0, 4)", x.told(0, 4), 1);
        due.is("told(0, 5)", x.told(0, 5), 2);
        due.is("told(0, 6)", x.told(0, 6), 3);
        due.is("told(0, 7)", x.told(0, 7), 0);
    }

    private static void toldAtAnotherHearth() {
        due.sentence("==== 2: the one that was TOLD there the longest ago (there, and not elsewhere)");
        TaleBans x = Due.steppe("s;g50;h11");
        x.law(2);
        x.tale(0, 0, 0);
        x.tale(1, 0, 0);
        x.move(0, 1, 1);
        // At hearth 0 tale 0 was told; at hearth 1 neither was.
        due.is("told(0, 0)", x.told(0, 0), 0);
        due.is("told(1, 1)", x.told(1, 1), 0);
        due.is("told(1, 2)", x.told(1, 2), 1);
        x.move(0, 0, 3);
        due.is("told(0, 3): tale 1 never was there", x.told(0, 3), 1);
        due.is("told(0, 4)", x.told(0, 4), 0);
        // Who stayed remembers tale 1 alone, heard in 2.
        due.is("told(1, 3)", x.told(1, 3), 1);
    }

    private static void toldOfWhoRemembersThere() {
        due.sentence("==== 2: one TALE is TOLD, of those that somebody there REMEMBERS");
        TaleBans x = payAll(Due.steppe("s;h20;h21"));
        x.tale(0, 0, 0);
        x.tale(1, 1, 0);
        toldIs(x, 0, 0, 0, 0, -9);
        toldIs(x, 1, 1, 1, 1, -9);
        x.move(1, 0, 2);
        toldIs(x, 0, 0, 0, 1, -9);
        toldIs(x, 1, 1, 1, -9, -9);
    }

    private static void toldAtAnEmptyHearth() {
        due.sentence("Promise 13: NONE: none (where nobody is)");
        TaleBans x = Due.steppe("s;h20;h20");
        x.tale(0, 0, 0);
        x.move(0, 2, 1);
        x.move(1, 2, 1);
        toldIs(x, 0, 0, -9, -9);
        toldIs(x, 1, -9, -9, -9);
        toldIs(x, 2, -9, 0, 0);
    }

    private static void forbiddenAsItEnds() {
        due.sentence("==== 2: FORBIDDEN in a SEASON: DEEDS of TALES that somebody REMEMBERS as it ends");
        TaleBans x = payAll(Due.steppe("s;h10;h20"));
        x.tale(3, 0, 5);
        int[] sets = {0, 8, 8, 0};
        for (int k = 0; k < 4; k++) {
            due.is("forbidden(" + (4 + k) + ")", x.forbidden(4 + k), sets[k]);
        }
        // 1 hears it in the last season in which 0 remembers it.
        x.move(1, 1, 0);
        x.move(1, 0, 6);
        x.pay(1, false);
        due.is("forbidden(7)", x.forbidden(7), 8);
        due.is("remembers(0, 7)", x.remembers(0, 7), 0);
    }

    private static void allDeedsForbidden() {
        due.sentence("Sets are told as bits (bit k for number k): all six");
        TaleBans x = Due.steppe("s;g50;h10");
        for (int t = 0; t < 6; t++) {
            x.tale(5 - t, 0, t);
            due.is("forbidden(" + t + ")", x.forbidden(t), 63 & ~(31 >> t));
            due.is("remembers(0, " + t + ")", x.remembers(0, t), (2 << t) - 1);
        }
    }

    private static void oneDeedOfTwoTales() {
        due.sentence("==== 2: DEEDS of TALES (one of two of them forgotten)");
        TaleBans x = payAll(Due.steppe("s;h10;h30"));
        x.tale(2, 0, 0);
        x.tale(2, 1, 0);
        due.is("forbidden(2)", x.forbidden(2), 4);
        due.is("forbidden(3)", x.forbidden(3), 4);
        due.is("forbidden(4)", x.forbidden(4), 0);
    }

    private static void seasonsOfParodies() {
        due.sentence("==== 2: but a PARODIED one forbids nothing in SEASONS 6, 13, 20, 27, 34");
        TaleBans x = Due.steppe("s;h10;h11");
        x.tale(5, 0, 0);
        x.parody(0, true);
        int[] sets = new int[40];
        java.util.Arrays.fill(sets, 32);
        for (int season : new int[] {6, 13, 20, 27, 34}) {
            sets[season] = 0;
        }
        for (int season = 0; season < 40; season++) {
            due.is("forbidden(" + season + ")", x.forbidden(season), sets[season]);
        }
    }

    private static void parodiedOneIsRemembered() {
        due.sentence("==== 2: a PARODIED one forbids nothing (but is REMEMBERED, TOLD and does not die)");
        TaleBans x = Due.steppe("s;h10;h10");
        x.tale(5, 0, 6);
        x.parody(0, true);
        due.is("remembers(1, 6)", x.remembers(1, 6), 1);
        due.is("told(0, 6)", x.told(0, 6), 0);
        due.is("forbidden(6)", x.forbidden(6), 0);
        due.is("forbidden(7)", x.forbidden(7), 32);
        due.is("dies(0)", x.dies(0), -9);
    }

    private static void parodyOfOneTale() {
        due.sentence("==== 2: a PARODIED one forbids nothing (another one of that DEED does)");
        TaleBans x = Due.steppe("s;h10;h11");
        x.tale(1, 0, 0);
        x.tale(1, 1, 0);
        x.parody(1, true);
        due.is("forbidden(13)", x.forbidden(13), 2);
        x.parody(0, true);
        due.is("forbidden(13)", x.forbidden(13), 0);
        x.parody(1, false);
        due.is("forbidden(13)", x.forbidden(13), 2);
    }

    private static void diesBehindItsSeason() {
        due.sentence("==== 2: DIES: the first SEASON behind that of a TALE as which ends nobody REMEMBERS it");
        TaleBans x = payAll(Due.steppe("s;h10;h50"));
        x.tale(0, 0, 0);
        x.tale(0, 0, 5);
        x.tale(0, 1, 5);
        due.is("dies(0)", x.dies(0), 2);
        due.is("dies(1): not ahead of it", x.dies(1), 7);
        due.is("dies(2)", x.dies(2), 11);
        due.is("dies(-1)", x.dies(-1), -1);
        due.is("dies(3)", x.dies(3), -1);
    }

    private static void diesInTheLastSeason() {
        due.sentence("Promise 15: DIES; NONE: not till SEASON 39 (in it)");
        TaleBans x = payAll(Due.steppe("s;h10;g50"));
        x.tale(0, 0, 37);
        x.tale(0, 1, 24);
        due.is("dies(0)", x.dies(0), 39);
        due.is("dies(1)", x.dies(1), 39);
    }

    private static void diesNotTillTheLastSeason() {
        due.sentence("Promise 15: NONE: not till SEASON 39 (though behind it)");
        TaleBans x = payAll(Due.steppe("s;h10;g50"));
        x.tale(0, 0, 38);
        x.tale(0, 1, 25);
        due.is("dies(0)", x.dies(0), -9);
        due.is("dies(1)", x.dies(1), -9);
    }

    private static void aTaleOfTheLastSeason() {
        due.sentence("Promise 15: NONE: not till SEASON 39 (behind which there is none)");
        TaleBans x = payAll(Due.steppe("s;h10;g50"));
        x.tale(0, 0, 39);
        due.is("dies(0)", x.dies(0), -9);
    }

    private static void freeAtOnce() {
        due.sentence("==== 2: FREE of a DEED from a SEASON on: the first one in which it is not FORBIDDEN (that one)");
        TaleBans x = payAll(Due.steppe("s;h10;h11"));
        x.tale(0, 0, 1);
        due.is("free(0, 0)", x.free(0, 0), 0);
        due.is("free(0, 1)", x.free(0, 1), 3);
        due.is("free(0, 2)", x.free(0, 2), 3);
        due.is("free(0, 3)", x.free(0, 3), 3);
        due.is("free(1, 1)", x.free(1, 1), 1);
        due.is("free(5, 1)", x.free(5, 1), 1);
        due.is("free(6, 1)", x.free(6, 1), -1);
        due.is("free(-1, 1)", x.free(-1, 1), -1);
    }

    private static void freeInTheLastSeason() {
        due.sentence("Promise 16: FREE; NONE: not till SEASON 39 (in it)");
        TaleBans x = payAll(Due.steppe("s;h10;h11"));
        x.tale(0, 0, 37);
        due.is("free(0, 37)", x.free(0, 37), 39);
        due.is("free(0, 38)", x.free(0, 38), 39);
        due.is("free(0, 39)", x.free(0, 39), 39);
    }

    private static void freeNotTillTheLastSeason() {
        due.sentence("Promise 16: NONE: not till SEASON 39 (though behind it)");
        TaleBans x = payAll(Due.steppe("s;h10;h11"));
        x.tale(0, 0, 38);
        due.is("free(0, 37)", x.free(0, 37), 37);
        due.is("free(0, 38)", x.free(0, 38), -9);
        due.is("free(0, 39)", x.free(0, 39), -9);
    }

    private static void freeOfWhatComesLater() {
        due.sentence("==== 2: FREE: the first one in which it is not FORBIDDEN (between two TALES)");
        TaleBans x = payAll(Due.steppe("s;h10;h11"));
        x.tale(0, 0, 0);
        x.tale(0, 0, 3);
        due.is("free(0, 0)", x.free(0, 0), 2);
        due.is("free(0, 3)", x.free(0, 3), 5);
    }
}
