/** Promises 11 to 16: seasons. */
public final class SeasonsTest {
    private static final Due due = new Due();

    public static void main(String[] args) {
        memories();
        hearthsApart();
        whoIsPaidHearsWhatComes();
        whoIsPaidTells();
        movesAheadOfTelling();
        hearth();
        lawOfTheGreatest();
        lawOfTheLeast();
        lawOfTheLongestAgo();
        longestAgoIsOfAHearth();
        deedsOfSeveralTales();
        parodies();
        dies();
        free();
        freeByLaw();
        refusals();
        due.finish();
    }

    private static void payAll(TaleBans x) {
        for (int p = 0; p < x.many(0); p++) {
            x.pay(p, true);
        }
    }

    /** A PERSON who is paid REMEMBERS what came to it as long as its MEMORY, and then no more. */
    private static void memories() {
        TaleBans x = Due.steppe("s;h10;h50;b20;g30");
        payAll(x);
        int[] memory = {1, 5, 4, 10};
        for (int p = 0; p < 4; p++) {
            x.tale(p, p, 7);
            due.is("ahead of it", x.remembers(p, 6), 0);
            due.is("in it", x.remembers(p, 7), 1 << p);
            due.is("at the end of its memory", x.remembers(p, 7 + memory[p]), 1 << p);
            due.is("behind its memory", x.remembers(p, 8 + memory[p]), 0);
            due.is("dies", x.dies(p), 8 + memory[p]);
        }
        x = Due.steppe("s;h10;h10");
        x.tale(0, 0, 0);
        due.is("as long as it is told", x.remembers(0, 39), 1);
        due.is("to the other, too", x.remembers(1, 39), 1);
    }

    private static void hearthsApart() {
        TaleBans x = Due.steppe("s;h10;h11;h10");
        x.tale(4, 0, 3);
        due.is("who it came to", x.remembers(0, 3), 1);
        due.is("who sits there", x.remembers(2, 3), 1);
        due.is("who sits elsewhere", x.remembers(1, 39), 0);
        due.is("told ahead of it", x.told(0, 2), -9);
        due.is("told in it", x.told(0, 3), 0);
        due.is("told at another hearth", x.told(1, 3), -9);
        due.is("told where nobody is", x.told(2, 3), -9);
        due.is("forbidden ahead of it", x.forbidden(2), 0);
        due.is("forbidden in it", x.forbidden(3), 16);
    }

    private static void whoIsPaidHearsWhatComes() {
        TaleBans x = Due.steppe("s;h20;h20");
        x.pay(0, true);
        x.tale(0, 0, 4);
        due.is("the paid one hears it", x.remembers(0, 4), 1);
        due.is("the other is told", x.remembers(1, 4), 1);
        due.is("the paid one till its memory ends", x.remembers(0, 6), 1);
        due.is("the paid one is not told again", x.remembers(0, 7), 0);
        due.is("the other goes on", x.remembers(1, 39), 1);
    }

    private static void whoIsPaidTells() {
        TaleBans x = Due.steppe("s;h20;h10");
        payAll(x);
        x.tale(0, 0, 4);
        due.is("told as long as the paid one remembers", x.told(0, 6), 0);
        due.is("and no more", x.told(0, 7), -9);
        due.is("the paid other never hears", x.remembers(1, 4), 0);
        x.pay(0, false);
        due.is("told for ever by who listens to itself", x.told(0, 39), 0);
    }

    private static void movesAheadOfTelling() {
        TaleBans x = Due.steppe("s;h20;h21;h21");
        x.pay(0, true);
        x.tale(0, 0, 4);
        x.move(0, 1, 6);
        due.is("not yet", x.remembers(1, 5), 0);
        due.is("told where it went to", x.told(1, 6), 0);
        due.is("not where it was", x.told(0, 6), -9);
        due.is("heard as it came", x.remembers(1, 6), 1);
        due.is("by all there", x.remembers(2, 6), 1);
        x.unmove(1);
        x.move(0, 1, 7);
        due.is("too late", x.remembers(1, 7), 0);
        x.undo(1);
        x.tale(0, 0, 7);
        due.is("a tale comes behind the moves", x.told(1, 7), 0);
    }

    private static void hearth() {
        TaleBans x = Due.steppe("s;h10;b31");
        due.is("at first", x.hearth(1, 0), 1);
        due.is("for good", x.hearth(1, 39), 1);
        x.move(0, 1, 9);
        x.move(0, 2, 4);
        x.move(0, 1, 4);
        x.move(0, 2, 0);
        due.is("in season 0", x.hearth(0, 0), 2);
        due.is("till the next move", x.hearth(0, 3), 2);
        due.is("of two the one of the greater number", x.hearth(0, 4), 1);
        x.unmove(2);
        due.is("the one that is left", x.hearth(0, 4), 2);
        due.is("ahead of it", x.hearth(0, 3), 0);
        due.is("by seasons, not by numbers", x.hearth(0, 9), 1);
        due.is("to the end", x.hearth(0, 39), 1);
        due.is("the other stays", x.hearth(1, 39), 1);
    }

    private static TaleBans twoTales(String text, int law) {
        TaleBans x = Due.steppe(text);
        x.law(law);
        x.tale(0, 0, 0);
        x.tale(1, 1, 0);
        return x;
    }

    private static void toldIs(TaleBans x, String law, int... tales) {
        for (int season = 0; season < tales.length; season++) {
            due.is(law + ": told in " + season, x.told(0, season), tales[season]);
        }
    }

    private static void lawOfTheGreatest() {
        TaleBans x = twoTales("s;h20;h20", 0);
        toldIs(x, "LAW 0", 1, 1, 1, 1);
        due.is("LAW 0: tale 0 is not heard", x.remembers(1, 0), 2);
        due.is("LAW 0: tale 0 dies", x.dies(0), 3);
        due.is("LAW 0: tale 1 never", x.dies(1), -9);
    }

    private static void lawOfTheLeast() {
        TaleBans x = twoTales("s;h20;h20", 1);
        toldIs(x, "LAW 1", 0, 0, 0, 0);
        due.is("LAW 1: tale 1 is not heard", x.remembers(0, 0), 1);
        due.is("LAW 1: tale 1 dies", x.dies(1), 3);
        due.is("LAW 1: tale 0 never", x.dies(0), -9);
    }

    private static void lawOfTheLongestAgo() {
        TaleBans x = twoTales("s;h20;h20", 2);
        toldIs(x, "LAW 2", 0, 1, 0, 1, 0, 1);
        due.is("LAW 2: both for ever", x.remembers(0, 39), 3);
        x = twoTales("s;h10;h10", 2);
        toldIs(x, "LAW 2, of short memory", 0, 1, 1, 1);
        due.is("LAW 2, of short memory: tale 0 dies", x.dies(0), 2);
        x = twoTales("s;h30;h30", 2);
        x.tale(2, 0, 2);
        toldIs(x, "LAW 2: what never was told, ahead of all", 0, 1, 2, 0, 1, 2, 0, 1);
    }

    /** Tale 1 was told at hearth 0 alone: at hearth 1 it never was, nor was tale 0, which is the least. */
    private static void longestAgoIsOfAHearth() {
        TaleBans x = Due.steppe("s;h50;h51;h51");
        x.law(2);
        x.pay(0, true);
        x.tale(0, 0, 0);
        x.tale(1, 0, 0);
        x.tale(2, 1, 1);
        toldIs(x, "LAW 2 at hearth 0", 0, 1, 0);
        due.is("at hearth 1", x.told(1, 2), 2);
        x.move(0, 1, 3);
        due.is("of two that were never told there the least", x.told(1, 3), 0);
        due.is("then the other", x.told(1, 4), 1);
        due.is("then the one told there the longest ago", x.told(1, 5), 2);
        due.is("then the next", x.told(1, 6), 0);
    }

    private static void deedsOfSeveralTales() {
        TaleBans x = Due.steppe("s;h10;h10");
        payAll(x);
        x.tale(5, 0, 0);
        x.tale(5, 1, 2);
        x.tale(0, 1, 3);
        int[] due6 = {32, 32, 32, 33, 1, 0};
        for (int season = 0; season < 6; season++) {
            due.is("forbidden(" + season + ")", x.forbidden(season), due6[season]);
        }
    }

    private static void parodies() {
        TaleBans x = Due.steppe("s;h10;h10");
        x.tale(3, 0, 0);
        x.parody(0, true);
        for (int season = 0; season < 40; season++) {
            boolean laughs = season == 6 || season == 13 || season == 20 || season == 27 || season == 34;
            due.is("forbidden(" + season + ") of a parody", x.forbidden(season), laughs ? 0 : 8);
            due.is("it is told all the same", x.told(0, season), 0);
        }
        due.is("it never dies", x.dies(0), -9);
        due.is("free", x.free(3, 1), 6);
        due.is("free from its season on", x.free(3, 6), 6);
        due.is("free from behind it", x.free(3, 7), 13);
        due.is("never again", x.free(3, 35), -9);
        x.law(1);
        x.tale(3, 0, 0);
        due.is("another one that forbids it", x.forbidden(6), 0);
        x.law(0);
        due.is("another one that is told", x.forbidden(6), 8);
        x.parody(1, true);
        due.is("both are parodies", x.forbidden(6), 0);
        x.parody(0, false);
        due.is("one forgotten, one a parody", x.forbidden(6), 0);
        x.parody(1, false);
        due.is("no parody", x.forbidden(6), 8);
    }

    private static void dies() {
        TaleBans x = Due.steppe("s;h10;b10");
        payAll(x);
        x.tale(0, 0, 37);
        x.tale(0, 0, 38);
        x.tale(0, 0, 39);
        x.tale(0, 1, 35);
        x.tale(0, 1, 36);
        due.is("as the last season ends", x.dies(0), 39);
        due.is("not till then", x.dies(1), -9);
        due.is("told in the last season", x.dies(2), -9);
        due.is("as the last season ends, of a BARD", x.dies(3), 39);
        due.is("not till then, of a BARD", x.dies(4), -9);
        due.is("tale 5", x.dies(5), -1);
        due.is("tale -1", x.dies(-1), -1);
    }

    private static void free() {
        TaleBans x = Due.steppe("s;h10;h10");
        payAll(x);
        x.tale(2, 0, 4);
        x.tale(2, 0, 6);
        due.is("ahead of it", x.free(2, 3), 3);
        due.is("behind both", x.free(2, 4), 8);
        due.is("from the last of them on", x.free(2, 7), 8);
        due.is("another deed", x.free(1, 4), 4);
        due.is("in the last season", x.free(2, 39), 39);
        x.tale(2, 0, 39);
        due.is("not in the last season", x.free(2, 39), -9);
    }

    private static void freeByLaw() {
        TaleBans x = twoTales("s;h20;h20", 0);
        due.is("tale 0 by LAW 0", x.free(0, 0), 3);
        due.is("tale 1 by LAW 0", x.free(1, 0), -9);
        x.law(1);
        due.is("tale 0 by LAW 1", x.free(0, 0), -9);
        due.is("tale 1 by LAW 1", x.free(1, 0), 3);
        x = Due.steppe("s;h10;h10");
        payAll(x);
        x.tale(2, 0, 38);
        due.is("not free till season 39, though behind it", x.free(2, 38), -9);
    }

    private static void refusals() {
        TaleBans x = Due.steppe("s;h10;h10");
        x.tale(2, 0, 4);
        due.is("remembers: person ahead of season", x.remembers(2, 40), -1);
        due.is("remembers: person -1", x.remembers(-1, 0), -1);
        due.is("remembers: season 40", x.remembers(0, 40), -2);
        due.is("remembers: season -1", x.remembers(0, -1), -2);
        due.is("hearth: person ahead of season", x.hearth(2, 40), -1);
        due.is("hearth: person -1", x.hearth(-1, 0), -1);
        due.is("hearth: season 40", x.hearth(0, 40), -2);
        due.is("hearth: season -1", x.hearth(0, -1), -2);
        due.is("told: hearth ahead of season", x.told(3, 40), -1);
        due.is("told: hearth -1", x.told(-1, 0), -1);
        due.is("told: season 40", x.told(0, 40), -2);
        due.is("told: season -1", x.told(0, -1), -2);
        due.is("forbidden: season 40", x.forbidden(40), -2);
        due.is("forbidden: season -1", x.forbidden(-1), -2);
        due.is("free: deed ahead of season", x.free(6, 40), -1);
        due.is("free: deed -1", x.free(-1, 0), -1);
        due.is("free: season 40", x.free(0, 40), -2);
        due.is("free: season -1", x.free(0, -1), -2);
        TaleBans none = new TaleBans();
        due.is("told: hearth ahead of STATE", none.told(3, 0), -1);
        due.is("told: season ahead of STATE", none.told(0, 40), -2);
        due.is("forbidden: season ahead of STATE", none.forbidden(40), -2);
        due.is("free: deed ahead of STATE", none.free(6, 0), -1);
        due.is("free: season ahead of STATE", none.free(0, 40), -2);
    }
}
