/** Promises 22 to 27: who remembered what. */
public final class ReadingsTest {
    private static final long LOST = Long.MIN_VALUE;
    private static final Due due = new Due();

    public static void main(String[] args) {
        reading();
        back();
        comes();
        paid();
        laws();
        byLawAndPaid();
        odds();
        refusalsOfOdds();
        due.finish();
    }

    private static void reading() {
        TaleBans x = Due.steppe("s;h10;h10");
        due.is("no tale", x.reading(0, 0, 0, true), -1);
        x.tale(0, 0, 0);
        x.tale(0, 0, 0);
        due.is("person 2, ahead of season", x.reading(2, 0, 40, true), -1);
        due.is("person -1", x.reading(-1, 0, 0, true), -1);
        due.is("tale 2, ahead of season", x.reading(0, 2, 40, true), -1);
        due.is("tale -1", x.reading(0, -1, 0, true), -1);
        due.is("season 40", x.reading(0, 0, 40, true), -2);
        due.is("season -1", x.reading(0, 0, -1, true), -2);
        for (int k = 0; k < 8; k++) {
            due.is("reading " + k, x.reading(k % 2, k / 4, 39 - k, k > 5), k);
        }
        due.is("a ninth", x.reading(0, 0, 0, true), -4);
        due.is("OUTSIDE ahead of FULL", x.reading(0, 0, 40, true), -2);
        due.is("UNKNOWN ahead of FULL", x.reading(2, 0, 0, true), -1);
        due.is("many", x.many(4), 8);
    }

    private static void back() {
        TaleBans x = Due.steppe("s;h10;h10");
        x.tale(0, 0, 0);
        x.reading(0, 0, 0, true);
        x.reading(1, 0, 0, true);
        x.reading(0, 0, 0, false);
        due.is("two that clash", x.laws(), 0);
        due.is("back(-1)", x.back(-1), -2);
        due.is("back(4)", x.back(4), -2);
        due.is("back(MIN)", x.back(Integer.MIN_VALUE), -2);
        due.is("back(0)", x.back(0), 3);
        due.is("back(1)", x.back(1), 2);
        due.is("the clash is gone", x.laws(), 7);
        due.is("back(2)", x.back(2), 0);
        due.is("many", x.many(4), 0);
    }

    private static void comes() {
        TaleBans x = Due.steppe("s;h20;h21;h21;b22");
        x.tale(0, 3, 2);
        x.tale(1, 0, 2);
        due.is("no reading", x.comes(0), 15);
        x.reading(1, 0, 2, true);
        due.is("to one at that hearth", x.comes(0), 6);
        x.reading(3, 0, 39, false);
        due.is("and not to the other", x.comes(0), 6);
        due.is("whomever tale 1 comes to, tale 0 came to 3", x.comes(1), 0);
        x.back(1);
        x.pay(1, true);
        due.is("1 does not listen", x.comes(0), 2);
        x.reading(2, 0, 2, true);
        due.is("2 heard it of 1", x.comes(0), 2);
        x.reading(1, 0, 5, true);
        due.is("1 has no such memory", x.comes(0), 0);
        due.is("the tale comes as it came", x.remembers(3, 2), 1);
        due.is("to no other", x.remembers(1, 2), 0);
        due.is("tale 2", x.comes(2), -1);
        due.is("tale -1", x.comes(-1), -1);
    }

    private static void paid() {
        TaleBans x = Due.steppe("s;h10;h20;h30");
        x.tale(0, 0, 1);
        due.is("no reading", x.paid(), 7);
        x.reading(1, 0, 1, false);
        due.is("1 did not listen", x.paid(), 2);
        x.pay(1, true);
        due.is("it is paid: any one more, it too", x.paid(), 7);
        x.reading(2, 0, 1, true);
        due.is("2 did listen", x.paid(), 3);
        x.reading(0, 0, 3, false);
        due.is("0 did not, from then on", x.paid(), 1);
        x.reading(0, 0, 3, true);
        due.is("readings that clash", x.paid(), 0);
        due.is("nobody more is paid", x.ofPerson(0, 4), 0);
        due.is("nobody less", x.ofPerson(1, 4), 1);
    }

    private static void laws() {
        TaleBans x = Due.steppe("s;h20;h20");
        x.law(1);
        x.tale(0, 0, 0);
        x.tale(1, 1, 0);
        due.is("no reading", x.laws(), 7);
        x.reading(1, 0, 0, true);
        due.is("tale 0 is told: not by LAW 0", x.laws(), 6);
        x.reading(0, 1, 1, true);
        due.is("tale 1 is told in 1: by LAW 2", x.laws(), 4);
        x.back(2);
        x.reading(0, 1, 0, true);
        due.is("tale 1 is told: LAW 0", x.laws(), 1);
        x.back(1);
        x.reading(0, 1, 1, false);
        due.is("tale 1 is not told: LAW 1", x.laws(), 2);
        x.reading(0, 0, 0, false);
        due.is("by none", x.laws(), 0);
        due.is("the law stays", x.many(5), 1);
    }

    private static void byLawAndPaid() {
        TaleBans x = Due.steppe("s;h20;h20;h21");
        x.law(1);
        x.tale(0, 0, 0);
        x.tale(1, 1, 0);
        x.reading(1, 0, 0, true);
        due.is("tale 1 comes to whom it may, by LAW 1", x.comes(1), 7);
        due.is("who may be paid, by LAW 1", x.paid(), 5);
        x.law(0);
        due.is("tale 1 comes to 2 alone, by LAW 0", x.comes(1), 4);
        due.is("whoever is paid, by LAW 0", x.paid(), 0);
        x.pay(1, true);
        due.is("1 is paid: by no law", x.laws(), 0);
        x.back(1);
        x.reading(1, 0, 0, false);
        due.is("1 is paid: by each law", x.laws(), 7);
    }

    private static void oddsAre(TaleBans x, int deed, int season, long upper, long lower) {
        due.is("odds(" + deed + ", " + season + ", 0)", x.odds(deed, season, 0), upper);
        due.is("odds(" + deed + ", " + season + ", 1)", x.odds(deed, season, 1), lower);
    }

    private static void odds() {
        TaleBans x = Due.steppe("s;h10;h10");
        x.tale(0, 0, 0);
        oddsAre(x, 1, 0, 1, 1);
        oddsAre(x, 0, 1, 0, 1);
        oddsAre(x, 0, 2, 1, 4);
        x.pay(0, true);
        oddsAre(x, 0, 2, 1, 4);
        due.is("0 is still paid", x.ofPerson(0, 4), 1);
        due.is("1 still is not", x.ofPerson(1, 4), 0);
        x = Due.steppe("s;h10;h11;h12");
        x.tale(0, 1, 0);
        oddsAre(x, 0, 2, 1, 2);
        x.parody(0, true);
        oddsAre(x, 0, 6, 1, 1);
        oddsAre(x, 0, 7, 1, 2);
        x = Due.steppe("s;h10;b11");
        x.law(2);
        x.tale(0, 0, 0);
        x.tale(1, 0, 2);
        x.move(0, 1, 2);
        oddsAre(x, 0, 4, 3, 4);
        x = Due.steppe("s;h10;h10;h10;h10;h10;h10");
        x.tale(0, 0, 0);
        oddsAre(x, 0, 2, 1, 64);
        oddsAre(x, 0, 39, 1, 64);
    }

    private static void refusalsOfOdds() {
        TaleBans x = Due.steppe("s;h10;h10");
        x.put(0, 0, 0);
        due.is("deed 6", x.odds(6, 0, 0), LOST);
        due.is("deed -1", x.odds(-1, 0, 0), LOST);
        due.is("season 40", x.odds(0, 40, 0), LOST);
        due.is("season -1", x.odds(0, -1, 0), LOST);
        due.is("which 2", x.odds(0, 0, 2), LOST);
        due.is("which -1", x.odds(0, 0, -1), LOST);
        due.is("odds names no FAULTS", x.fault(), 1);
        due.is("STATE", new TaleBans().odds(0, 0, 0), LOST);
    }
}
