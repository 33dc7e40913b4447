/** The edges that the document names of promises 22 to 27, and of the Terms that they use, one by one. */
public final class ReadingsEdgesTest {
    private static final long LOST = Long.MIN_VALUE;
    private static final Due due = new Due();

    public static void main(String[] args) {
        eightReadings();
        readingsOfUnknown();
        readingsOfTheFirstSeason();
        readingsOfTheLastSeason();
        readingsAheadOfTheTale();
        readingsAsTheSeasonEnded();
        rememberedOrNot();
        backNone();
        backAll();
        backTheLast();
        comesWithoutReadings();
        comesToNobody();
        comesToTheLastPerson();
        comesInPlaceOfTheOneTold();
        comesToThePaid();
        comesOfOneOfTwo();
        comesOfUnknownTales();
        allReadingsNotOne();
        boughtWithoutReadings();
        boughtAlone();
        boughtThatArePaidAlready();
        boughtNobody();
        boughtTheLastPerson();
        boughtPaysNobody();
        lawsWithoutReadings();
        eachLawAlone();
        lawsByNone();
        lawsLeaveTheLaw();
        askedWithoutSteppe();
        oddsOfNone();
        oddsOfAll();
        oddsInLeastTerms();
        oddsOfSixPersons();
        oddsInPlaceOfWhoIsPaid();
        oddsOfParodies();
        oddsInFirstAndLastSeason();
        oddsRefused();
        due.finish();
    }

    private static void eightReadings() {
        due.sentence("==== 4: READINGS, 8 at most, each numbered by how many there are ahead of it (the first one 0)");
        TaleBans x = Due.steppe("s;h10;h10");
        x.tale(0, 0, 0);
        for (int k = 0; k < 8; k++) {
            due.is("reading " + k, x.reading(k % 2, 0, k, true), k);
        }
        due.is("a ninth", x.reading(0, 0, 0, true), -4);
        due.is("many(4)", x.many(4), 8);
        due.is("back(1)", x.back(1), 7);
        due.is("the eighth once more", x.reading(0, 0, 0, true), 7);
        due.is("a ninth once more", x.reading(0, 0, 0, true), -4);
        due.is("laws()", x.laws(), 7);
    }

    private static void readingsOfUnknown() {
        due.sentence("Promise 22: UNKNOWN: PERSON, TALE; OUTSIDE: season");
        TaleBans x = Due.steppe("s;h10;h10");
        due.is("no tale", x.reading(0, 0, 0, true), -1);
        x.tale(0, 0, 0);
        int[][] refused = {{-1, 0, 0, -1}, {2, 0, 0, -1}, {0, -1, 0, -1}, {0, 1, 0, -1}, {0, 0, -1, -2}, {0, 0, 40, -2}};
        for (int[] a : refused) {
            due.is("reading(" + a[0] + ", " + a[1] + ", " + a[2] + ", true)", x.reading(a[0], a[1], a[2], true), a[3]);
        }
        due.is("many(4)", x.many(4), 0);
        due.is("reading(1, 0, 39, true)", x.reading(1, 0, 39, true), 0);
    }

    private static void readingsOfTheFirstSeason() {
        due.sentence("==== 4: as a SEASON ended (0)");
        TaleBans x = Due.steppe("s;h10;h11");
        x.tale(0, 0, 0);
        x.reading(0, 0, 0, true);
        due.is("laws()", x.laws(), 7);
        x.reading(0, 0, 0, false);
        due.is("laws()", x.laws(), 0);
    }

    private static void readingsOfTheLastSeason() {
        due.sentence("==== 4: as a SEASON ended (39)");
        TaleBans x = Due.steppe("s;h10;h11");
        x.tale(0, 0, 0);
        x.reading(0, 0, 39, true);
        due.is("laws()", x.laws(), 7);
        due.is("comes(0)", x.comes(0), 1);
        due.is("paid()", x.paid(), 2);
        x.back(1);
        x.reading(0, 0, 39, false);
        due.is("laws()", x.laws(), 0);
        due.is("comes(0)", x.comes(0), 2);
        due.is("paid()", x.paid(), 1);
    }

    private static void readingsAheadOfTheTale() {
        due.sentence("==== 4: a PERSON REMEMBERED a TALE, or did not (ahead of the TALE's SEASON)");
        TaleBans x = Due.steppe("s;h10;h11");
        x.tale(0, 0, 20);
        x.reading(0, 0, 19, false);
        due.is("laws()", x.laws(), 7);
        due.is("comes(0)", x.comes(0), 3);
        due.is("paid()", x.paid(), 3);
        x.reading(0, 0, 19, true);
        due.is("laws()", x.laws(), 0);
        due.is("comes(0)", x.comes(0), 0);
        due.is("paid()", x.paid(), 0);
    }

    private static void readingsAsTheSeasonEnded() {
        due.sentence("==== 4: as a SEASON ended a PERSON REMEMBERED a TALE (TOLD in it, too)");
        TaleBans x = Due.steppe("s;h10;h10");
        x.tale(0, 0, 5);
        x.reading(1, 0, 5, true);
        due.is("laws()", x.laws(), 7);
        x.reading(1, 0, 4, true);
        due.is("laws()", x.laws(), 0);
    }

    private static void rememberedOrNot() {
        due.sentence("==== 4: a PERSON REMEMBERED a TALE, or did not (to the end of its MEMORY)");
        TaleBans x = Due.steppe("s;h30;h11");
        x.pay(0, true);
        x.tale(0, 0, 5);
        x.reading(0, 0, 8, true);
        due.is("laws()", x.laws(), 7);
        x.reading(0, 0, 9, false);
        due.is("laws()", x.laws(), 7);
        x.reading(0, 0, 9, true);
        due.is("laws()", x.laws(), 0);
        x.back(1);
        x.reading(0, 0, 8, false);
        due.is("laws()", x.laws(), 0);
    }

    private static void backNone() {
        due.sentence("Promise 23: The last k READINGS (0 .. as many as there are) are taken back: none");
        TaleBans x = Due.steppe("s;h10;h11");
        x.tale(0, 0, 0);
        due.is("back(0) of none", x.back(0), 0);
        due.is("back(1) of none", x.back(1), -2);
        due.is("back(-1) of none", x.back(-1), -2);
        x.reading(0, 0, 0, true);
        due.is("back(0)", x.back(0), 1);
        due.is("back(2)", x.back(2), -2);
        due.is("many(4)", x.many(4), 1);
    }

    private static void backAll() {
        due.sentence("Promise 23: The last k READINGS (0 .. as many as there are) are taken back: all");
        TaleBans x = Due.steppe("s;h10;h11");
        x.tale(0, 0, 0);
        for (int k = 0; k < 8; k++) {
            x.reading(0, 0, 0, false);
        }
        due.is("laws()", x.laws(), 0);
        due.is("back(9)", x.back(9), -2);
        due.is("back(8)", x.back(8), 0);
        due.is("laws()", x.laws(), 7);
        due.is("the tale stays", x.many(1), 1);
    }

    private static void backTheLast() {
        due.sentence("Promise 23: The last k READINGS are taken back: how many are left");
        TaleBans x = Due.steppe("s;h10;h11");
        x.tale(0, 0, 0);
        x.reading(0, 0, 0, true);
        x.reading(1, 0, 0, true);
        x.reading(1, 0, 0, false);
        due.is("laws()", x.laws(), 0);
        due.is("back(2)", x.back(2), 1);
        due.is("laws()", x.laws(), 7);
        due.is("the first is left: comes(0)", x.comes(0), 1);
    }

    // ---- COMES

    private static void comesWithoutReadings() {
        due.sentence("==== 4: COMES of a TALE: PERSONS .. that make all READINGS so (there are none)");
        TaleBans x = Due.steppe("s;h10;h11");
        x.tale(0, 0, 0);
        due.is("comes(0) of two", x.comes(0), 3);
        x = Due.steppe("s;h10;h11;h12;h10;h11;h12");
        x.tale(0, 0, 39);
        due.is("comes(0) of six", x.comes(0), 63);
    }

    private static void comesToNobody() {
        due.sentence("==== 4: COMES of a TALE: .. as a set (the empty one)");
        TaleBans x = Due.steppe("s;h10;h11");
        x.tale(0, 0, 0);
        x.reading(0, 0, 0, true);
        x.reading(1, 0, 0, true);
        due.is("comes(0)", x.comes(0), 0);
    }

    private static void comesToTheLastPerson() {
        due.sentence("==== 4: COMES of a TALE: PERSONS, as a set (the last of six)");
        TaleBans x = Due.steppe("s;h10;h10;h10;h11;h11;h12");
        x.tale(0, 0, 0);
        x.reading(5, 0, 0, true);
        due.is("comes(0)", x.comes(0), 32);
        x.back(1);
        x.reading(5, 0, 0, false);
        due.is("comes(0)", x.comes(0), 31);
    }

    private static void comesInPlaceOfTheOneTold() {
        due.sentence("==== 4: COMES of a TALE: PERSONS to whom it comes, in place of the one told");
        TaleBans x = Due.steppe("s;h10;h11");
        x.tale(0, 0, 0);
        x.reading(1, 0, 0, true);
        due.is("comes(0)", x.comes(0), 2);
        x.reading(0, 0, 0, false);
        due.is("comes(0)", x.comes(0), 2);
        due.is("it still comes to 0", x.remembers(0, 0), 1);
        due.is("and not to 1", x.remembers(1, 0), 0);
        due.is("laws()", x.laws(), 0);
    }

    private static void comesToThePaid() {
        due.sentence("==== 4: COMES: PERSONS to whom it comes (PAID, too)");
        TaleBans x = Due.steppe("s;h10;h10;h11");
        x.pay(0, true);
        x.tale(0, 2, 0);
        x.reading(0, 0, 0, true);
        due.is("comes(0)", x.comes(0), 1);
        x.pay(0, false);
        due.is("comes(0), if it listens", x.comes(0), 3);
    }

    private static void comesOfOneOfTwo() {
        due.sentence("==== 4: COMES of a TALE (the others as they were told)");
        TaleBans x = Due.steppe("s;h10;h11");
        x.tale(0, 0, 0);
        x.tale(1, 1, 0);
        x.reading(0, 0, 0, true);
        x.reading(1, 1, 0, true);
        due.is("comes(0)", x.comes(0), 1);
        due.is("comes(1)", x.comes(1), 2);
        x.reading(0, 1, 0, true);
        due.is("comes(0)", x.comes(0), 0);
        due.is("comes(1)", x.comes(1), 0);
    }

    private static void comesOfUnknownTales() {
        due.sentence("Promise 24: COMES, as a set. UNKNOWN");
        TaleBans x = Due.steppe("s;h10;h11");
        due.is("comes(0)", x.comes(0), -1);
        for (int t = 0; t < 6; t++) {
            x.tale(0, 0, 0);
            due.is("comes(" + t + ")", x.comes(t), 3);
            due.is("comes(" + (t + 1) + ")", x.comes(t + 1), -1);
        }
        due.is("comes(-1)", x.comes(-1), -1);
        x.undo(1);
        due.is("comes(5), undone", x.comes(5), -1);
    }

    private static void allReadingsNotOne() {
        due.sentence("==== 4: that make all READINGS so (the eighth, too)");
        TaleBans x = Due.steppe("s;h10;h11");
        x.tale(0, 0, 0);
        for (int k = 0; k < 7; k++) {
            x.reading(0, 0, k, true);
        }
        due.is("comes(0)", x.comes(0), 1);
        due.is("paid()", x.paid(), 2);
        due.is("laws()", x.laws(), 7);
        x.reading(0, 0, 7, false);
        due.is("comes(0)", x.comes(0), 0);
        due.is("paid()", x.paid(), 0);
        due.is("laws()", x.laws(), 0);
    }

    // ---- BOUGHT

    private static void boughtWithoutReadings() {
        due.sentence("==== 4: BOUGHT: PERSONS such that, were they PAID, too, all READINGS are so (there are none)");
        due.is("paid() of two", Due.steppe("s;h10;h11").paid(), 3);
        due.is("paid() of six", Due.steppe("s;h10;h11;h12;h10;h11;h12").paid(), 63);
    }

    private static void boughtAlone() {
        due.sentence("==== 4: BOUGHT: were they PAID, too (each alone)");
        TaleBans x = Due.steppe("s;h10;h10;h10");
        x.tale(0, 0, 0);
        x.reading(1, 0, 0, false);
        due.is("paid()", x.paid(), 2);
        x.reading(2, 0, 0, false);
        due.is("paid(): one alone will not do", x.paid(), 0);
        x.pay(1, true);
        due.is("paid(): with 1, who is, 2 will", x.paid(), 4);
    }

    private static void boughtThatArePaidAlready() {
        due.sentence("==== 4: BOUGHT: PERSONS (also such as are PAID already)");
        TaleBans x = Due.steppe("s;h10;h10;h10");
        x.tale(0, 0, 0);
        x.pay(1, true);
        x.reading(1, 0, 0, false);
        x.reading(2, 0, 0, true);
        due.is("paid()", x.paid(), 3);
    }

    private static void boughtNobody() {
        due.sentence("==== 4: BOUGHT: .. as a set (the empty one)");
        TaleBans x = Due.steppe("s;h10;h10");
        x.tale(0, 0, 0);
        x.reading(0, 0, 0, false);
        due.is("paid()", x.paid(), 0);
    }

    private static void boughtTheLastPerson() {
        due.sentence("==== 4: BOUGHT: PERSONS, as a set (the last of six)");
        TaleBans x = Due.steppe("s;h10;h10;h10;h10;h10;h10");
        x.tale(0, 0, 0);
        x.reading(5, 0, 39, false);
        due.is("paid()", x.paid(), 32);
        x.back(1);
        x.reading(5, 0, 39, true);
        due.is("paid()", x.paid(), 31);
    }

    private static void boughtPaysNobody() {
        due.sentence("Promise 25: BOUGHT, as a set (were they PAID: nobody is by that)");
        TaleBans x = Due.steppe("s;h10;h10");
        x.tale(0, 0, 0);
        x.reading(1, 0, 0, false);
        due.is("paid()", x.paid(), 2);
        due.is("ofPerson(1, 4)", x.ofPerson(1, 4), 0);
        due.is("remembers(1, 0)", x.remembers(1, 0), 1);
    }

    // ---- LAWS

    private static void lawsWithoutReadings() {
        due.sentence("==== 4: LAWS: those by which all READINGS are so, as a set (there are none)");
        TaleBans x = Due.steppe("s;h10;h10");
        due.is("laws()", x.laws(), 7);
        x.tale(0, 0, 0);
        x.law(2);
        due.is("laws()", x.laws(), 7);
    }

    /** Tales 0 and 1 come to 0 in season 0, tale 2 in 1; 1 hears what is told. */
    private static TaleBans threeTales() {
        TaleBans x = Due.steppe("s;g50;h10");
        x.tale(0, 0, 0);
        x.tale(1, 0, 0);
        x.tale(2, 0, 1);
        return x;
    }

    private static void eachLawAlone() {
        due.sentence("==== 4: LAWS: those by which all READINGS are so, as a set (each LAW alone)");
        for (int law = 0; law < 3; law++) {
            TaleBans x = threeTales();
            x.law(law);
            // LAW 0 tells 1, then 2; LAW 1 tells 0, then 0; LAW 2 tells 0, then 1.
            x.reading(1, 1, 0, true);
            due.is("laws()", x.laws(), 1);
            x.back(1);
            x.reading(1, 1, 1, false);
            due.is("laws()", x.laws(), 2);
            x.back(1);
            x.reading(1, 1, 0, false);
            x.reading(1, 1, 1, true);
            due.is("laws()", x.laws(), 4);
            x.back(2);
            x.reading(1, 0, 0, true);
            due.is("laws()", x.laws(), 6);
            x.back(1);
            x.reading(1, 1, 1, true);
            due.is("laws()", x.laws(), 5);
            x.back(1);
            x.reading(1, 2, 1, false);
            due.is("laws()", x.laws(), 6);
        }
    }

    private static void lawsByNone() {
        due.sentence("==== 4: LAWS: .. as a set (the empty one)");
        TaleBans x = threeTales();
        x.reading(1, 2, 0, true);
        due.is("laws()", x.laws(), 0);
    }

    private static void lawsLeaveTheLaw() {
        due.sentence("Promise 26: LAWS, as a set (the LAW stays what it is)");
        TaleBans x = threeTales();
        x.law(1);
        x.reading(1, 1, 0, true);
        due.is("laws()", x.laws(), 1);
        due.is("many(5)", x.many(5), 1);
        due.is("told(0, 0)", x.told(0, 0), 0);
    }

    private static void askedWithoutSteppe() {
        due.sentence("Promises 25 and 26: STATE: there is no STEPPE");
        TaleBans x = new TaleBans();
        due.is("paid()", x.paid(), -3);
        due.is("laws()", x.laws(), -3);
        Due.settle(x, "s;h10");
        due.is("paid(), no TEXT was taken", x.paid(), -3);
        due.is("laws(), no TEXT was taken", x.laws(), -3);
        Due.settle(x, "s;h10;h10");
        due.is("paid()", x.paid(), 3);
        due.is("laws()", x.laws(), 7);
    }

    // ---- ODDS

    private static void oddsAre(TaleBans x, int deed, int season, long upper, long lower) {
        due.is("odds(" + deed + ", " + season + ", 0)", x.odds(deed, season, 0), upper);
        due.is("odds(" + deed + ", " + season + ", 1)", x.odds(deed, season, 1), lower);
    }

    private static void oddsOfNone() {
        due.sentence("Shares are told as upper and lower number (above 0) in least terms: none of all");
        TaleBans x = Due.steppe("s;h10;h10;h10;h10;h10;h10");
        x.tale(0, 0, 0);
        oddsAre(x, 0, 0, 0, 1);
        oddsAre(x, 0, 1, 0, 1);
    }

    private static void oddsOfAll() {
        due.sentence("Shares are told as upper and lower number (above 0) in least terms: all");
        TaleBans x = Due.steppe("s;h10;h10;h10;h10;h10;h10");
        oddsAre(x, 0, 0, 1, 1);
        x.tale(0, 0, 1);
        oddsAre(x, 0, 0, 1, 1);
        oddsAre(x, 5, 39, 1, 1);
    }

    private static void oddsInLeastTerms() {
        due.sentence("Shares are told as upper and lower number (above 0) in least terms");
        TaleBans x = Due.steppe("s;h10;h11;h12;h10;h11;h12");
        x.tale(0, 0, 0);
        // 0 and 3 must be paid: 16 of 64.
        oddsAre(x, 0, 2, 1, 4);
        x.move(3, 1, 0);
        oddsAre(x, 0, 2, 1, 2);
        x = Due.steppe("s;h10;b11");
        x.law(2);
        x.tale(0, 0, 0);
        x.tale(1, 0, 2);
        x.move(0, 1, 2);
        oddsAre(x, 0, 4, 3, 4);
    }

    private static void oddsOfSixPersons() {
        due.sentence("==== 4: ODDS: if each PERSON is PAID, or not, all such sets alike (64 of six)");
        TaleBans x = Due.steppe("s;h10;h10;h10;h10;h10;h10");
        x.tale(5, 5, 0);
        oddsAre(x, 5, 2, 1, 64);
        oddsAre(x, 5, 39, 1, 64);
    }

    private static void oddsInPlaceOfWhoIsPaid() {
        due.sentence("==== 4: ODDS: if each PERSON is PAID, or not (in place of what it is)");
        TaleBans x = Due.steppe("s;h10;h10");
        x.tale(0, 0, 0);
        oddsAre(x, 0, 2, 1, 4);
        x.pay(0, true);
        oddsAre(x, 0, 2, 1, 4);
        x.pay(1, true);
        oddsAre(x, 0, 2, 1, 4);
        due.is("ofPerson(0, 4)", x.ofPerson(0, 4), 1);
        due.is("ofPerson(1, 4)", x.ofPerson(1, 4), 1);
    }

    private static void oddsOfParodies() {
        due.sentence("==== 4: ODDS: the share of those by which a DEED is not FORBIDDEN (in 34 no PARODY does)");
        TaleBans x = Due.steppe("s;h10;h11");
        x.tale(0, 0, 0);
        x.parody(0, true);
        oddsAre(x, 0, 34, 1, 1);
        oddsAre(x, 0, 35, 1, 2);
        oddsAre(x, 0, 33, 1, 2);
    }

    private static void oddsInFirstAndLastSeason() {
        due.sentence("==== 4: ODDS: .. in a SEASON (0 and 39)");
        TaleBans x = Due.steppe("s;h10;h11");
        x.tale(5, 0, 0);
        x.tale(4, 0, 39);
        oddsAre(x, 5, 0, 0, 1);
        oddsAre(x, 4, 39, 0, 1);
        oddsAre(x, 4, 38, 1, 1);
        oddsAre(x, 0, 0, 1, 1);
    }

    private static void oddsRefused() {
        due.sentence("Promise 27: LOST: UNKNOWN: DEED; OUTSIDE: season, which; STATE: there is no STEPPE");
        TaleBans x = Due.steppe("s;h10;h10");
        int[][] refused = {{-1, 0, 0}, {6, 0, 0}, {0, -1, 0}, {0, 40, 0}, {0, 0, -1}, {0, 0, 2}};
        for (int[] a : refused) {
            due.is("odds(" + a[0] + ", " + a[1] + ", " + a[2] + ")", x.odds(a[0], a[1], a[2]), LOST);
        }
        due.is("odds(0, 0, 0) without a steppe", new TaleBans().odds(0, 0, 0), LOST);
        due.is("odds(5, 39, 1) without a steppe", new TaleBans().odds(5, 39, 1), LOST);
        due.is("odds(5, 39, 1)", x.odds(5, 39, 1), 1);
    }
}
