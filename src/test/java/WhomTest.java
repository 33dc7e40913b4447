/** Promises 17 to 21: whom to pay, whom to tell, needs. */
public final class WhomTest {
    private static final int MIN = Integer.MIN_VALUE, MAX = Integer.MAX_VALUE;
    private static final Due due = new Due();

    public static void main(String[] args) {
        fewest();
        fewestOfSeveral();
        refusalsOfFewest();
        longest();
        refusalsOfLongest();
        need();
        clash();
        clashByLaw();
        plan();
        planByLaw();
        refusalsOfPlan();
        due.finish();
    }

    private static void fewest() {
        TaleBans x = Due.steppe("s;h10;h10");
        x.tale(0, 0, 1);
        due.is("ahead of the tale", x.fewest(0, 0), 0);
        due.is("not by all", x.fewest(0, 1), -9);
        due.is("not by all, as long as one remembers", x.fewest(0, 2), -9);
        due.is("by both", x.fewest(0, 3), 3);
        due.is("another deed", x.fewest(1, 3), 0);
        x.pay(0, true);
        due.is("more than are paid", x.fewest(0, 3), 2);
        x.pay(1, true);
        due.is("all are paid", x.fewest(0, 3), 0);
        due.is("not by all", x.fewest(0, 2), -9);
        due.is("nobody more is paid by that", x.ofPerson(0, 4) + x.ofPerson(1, 4), 2);
        x.pay(0, false);
        x.fewest(0, 3);
        due.is("nobody less, either", x.ofPerson(0, 4), 0);
        x = Due.steppe("s;h10;h10");
        x.tale(0, 0, 1);
        x.parody(0, true);
        due.is("in a season of parodies", x.fewest(0, 6), 0);
        due.is("in another", x.fewest(0, 7), 3);
    }

    private static void fewestOfSeveral() {
        // 0 carries tale 0 to 1, who listens; or 0 gives way to tale 1 there, if 1 does not.
        TaleBans x = Due.steppe("s;h10;b11");
        x.law(2);
        x.tale(0, 0, 0);
        x.tale(1, 0, 2);
        x.move(0, 1, 2);
        due.is("either one will do: the least", x.fewest(0, 4), 1);
        due.is("three of four sets", x.odds(0, 4, 0), 3);
        // {0, 1} would do, too, and is the lesser number, but is more.
        x = Due.steppe("s;b20;h20;h11");
        x.law(2);
        x.tale(0, 2, 0);
        x.tale(1, 0, 1);
        x.move(2, 0, 2);
        due.is("fewer, though the greater number", x.fewest(0, 6), 4);
        x.pay(0, true);
        x.pay(1, true);
        due.is("{0, 1} does it, indeed", x.fewest(0, 6), 0);
    }

    private static void refusalsOfFewest() {
        TaleBans x = Due.steppe("s;h10;h10");
        due.is("deed 6, ahead of season", x.fewest(6, 40), -1);
        due.is("deed -1", x.fewest(-1, 0), -1);
        due.is("season 40", x.fewest(0, 40), -2);
        due.is("season -1", x.fewest(5, -1), -2);
        TaleBans none = new TaleBans();
        due.is("deed ahead of STATE", none.fewest(6, 0), -1);
        due.is("season ahead of STATE", none.fewest(0, 40), -2);
    }

    private static void longestIs(TaleBans x, int season, int who, int dies) {
        due.is("longest(" + season + ", 0)", x.longest(season, 0), who);
        due.is("longest(" + season + ", 1)", x.longest(season, 1), dies);
    }

    private static void longest() {
        TaleBans x = Due.steppe("s;h20;b20;h30;b20");
        longestIs(x, 0, 0, -9);
        for (int p = 0; p < 4; p++) {
            x.pay(p, true);
        }
        longestIs(x, 0, 1, 5);
        longestIs(x, 34, 1, 39);
        longestIs(x, 35, 1, -9);
        longestIs(x, 36, 1, -9);
        longestIs(x, 37, 0, -9);
        longestIs(x, 39, 0, -9);
        x.move(2, 1, 0);
        x.pay(2, false);
        longestIs(x, 0, 2, -9);
        due.is("no tale more is there", x.many(1), 0);
        due.is("nobody remembers one", x.remembers(2, 5), 0);
        // Under LAW 1 the one more gives way to tale 0, under LAW 0 it does not.
        x = Due.steppe("s;h20;h30");
        x.tale(0, 0, 0);
        longestIs(x, 1, 0, -9);
        x.law(1);
        longestIs(x, 1, 1, 5);
        for (int t = 1; t < 5; t++) {
            x.tale(0, 0, 0);
        }
        longestIs(x, 1, 1, 5);
        due.is("as many as there were", x.many(1), 5);
        due.is("the sixth", x.tale(0, 0, 0), 5);
        due.is("longest, no tale more may be", x.longest(1, 0), -4);
    }

    private static void refusalsOfLongest() {
        TaleBans x = Due.steppe("s;h10;h10");
        for (int t = 0; t < 6; t++) {
            x.tale(0, 0, 0);
        }
        due.is("season 40, ahead of FULL", x.longest(40, 0), -2);
        due.is("season -1", x.longest(-1, 0), -2);
        due.is("what 2", x.longest(0, 2), -2);
        due.is("what -1", x.longest(0, -1), -2);
        due.is("FULL", x.longest(0, 1), -4);
        TaleBans none = new TaleBans();
        due.is("OUTSIDE ahead of STATE", none.longest(0, 2), -2);
        due.is("STATE", none.longest(0, 0), -3);
    }

    private static void need() {
        TaleBans x = Due.steppe("s;h10;h10");
        due.is("deed 6", x.need(6, 0), -1);
        due.is("deed -1", x.need(-1, 0), -1);
        due.is("other 6", x.need(0, 6), -1);
        due.is("other -1", x.need(0, -1), -1);
        for (int k = 0; k < 6; k++) {
            due.is("need " + k, x.need(k, 5 - k), k);
        }
        due.is("a seventh", x.need(0, 0), -4);
        due.is("UNKNOWN ahead of FULL", x.need(6, 0), -1);
        due.is("many", x.many(3), 6);
        TaleBans none = new TaleBans();
        due.is("UNKNOWN ahead of STATE", none.need(0, 6), -1);
    }

    private static void clashIs(TaleBans x, int season, int need) {
        due.is("clash(0)", x.clash(0), season);
        due.is("clash(1)", x.clash(1), need);
    }

    private static void clash() {
        TaleBans x = Due.steppe("s;h21;h22");
        x.tale(1, 0, 3);
        x.tale(4, 1, 8);
        clashIs(x, -9, -9);
        x.need(2, 1);
        x.need(1, 0);
        clashIs(x, -9, -9);
        x.need(4, 1);
        clashIs(x, 8, 2);
        x.need(1, 4);
        clashIs(x, 8, 2);
        x.need(4, 4);
        clashIs(x, 8, 2);
        x.need(1, 1);
        clashIs(x, 3, 5);
        x.pay(0, true);
        x.pay(1, true);
        clashIs(x, 3, 5);
        x.parody(0, true);
        clashIs(x, 3, 5);
        x = Due.steppe("s;h21;h22");
        x.tale(1, 0, 6);
        x.tale(1, 1, 39);
        x.need(1, 1);
        clashIs(x, 6, 0);
        x.parody(0, true);
        clashIs(x, 7, 0);
        x.pay(0, true);
        clashIs(x, 7, 0);
        due.is("undo", x.undo(2), 0);
        x.tale(1, 1, 39);
        clashIs(x, 39, 0);
        due.is("what 2", x.clash(2), -2);
        due.is("what -1", x.clash(-1), -2);
        TaleBans none = new TaleBans();
        due.is("OUTSIDE ahead of STATE", none.clash(2), -2);
        due.is("STATE", none.clash(0), -3);
    }

    /** Tale 0 of deed 0, tale 1 of deed 1; then tale 2 of deed 2, when LAW 0 has forgotten tale 0. */
    private static TaleBans threeTales() {
        TaleBans x = Due.steppe("s;h20;h20");
        x.tale(0, 0, 0);
        x.tale(1, 1, 0);
        x.tale(2, 0, 5);
        return x;
    }

    private static void clashByLaw() {
        TaleBans x = threeTales();
        x.need(0, 2);
        x.need(1, 2);
        clashIs(x, 5, 1);
        x.law(1);
        clashIs(x, 5, 0);
        x.law(2);
        clashIs(x, 5, 0);
        x.pay(0, true);
        x.pay(1, true);
        clashIs(x, -9, -9);
    }

    private static void planByLaw() {
        TaleBans x = threeTales();
        Due.writeNumbers(x, 0, 0, 1, 0, 1);
        due.plain(x, "LAW 0 tells of deed 1", x.plan(3, 0, 0, 0, 3), 0);
        x.law(1);
        due.plain(x, "LAW 1 tells of deed 0", x.plan(3, 0, 0, 0, 3), 1);
        x.pay(0, true);
        x.pay(1, true);
        due.plain(x, "all are paid", x.plan(3, 0, 0, 0, 3), -9);
    }

    private static void plan() {
        for (int lane = 0; lane < 3; lane++) {
            TaleBans x = Due.steppe("s;h11;h12");
            x.pay(0, true);
            x.tale(3, 0, 4);
            Due.writeNumbers(x, 0, lane, 3, 3, 0, 3, 5);
            due.plain(x, "ahead of the tale", x.plan(0, 0, lane, 0, 4), -9);
            due.plain(x, "3 in season 4", x.plan(1, 0, lane, 0, 4), 3);
            due.plain(x, "3 in season 4, of three", x.plan(1, 0, lane, 0, 3), -9);
            due.plain(x, "3 in season 5", x.plan(2, 0, lane, 0, 5), 3);
            due.plain(x, "3 in seasons 4 and 6, 0 in 5", x.plan(3, 0, lane, 0, 5), 1);
            due.plain(x, "3 in season 4, the first", x.plan(4, 0, lane, 0, 5), 0);
            due.plain(x, "3 in season 5, the first", x.plan(5, 0, lane, 0, 5), 0);
            due.plain(x, "behind it", x.plan(6, 0, lane, 0, 5), -9);
            due.plain(x, "the place is counted from i on", x.plan(3, 0, lane, 2, 3), 1);
            due.plain(x, "none, at the end", x.plan(4, 0, lane, 5, 0), -9);
            due.plain(x, "to season 39", x.plan(35, 0, lane, 0, 5), -9);
            due.plain(x, "beyond season 39", x.plan(36, 0, lane, 0, 5), -2);
            due.plain(x, "none in season 39", x.plan(39, 0, lane, 0, 0), -9);
            due.plain(x, "one in season 39", x.plan(39, 0, lane, 0, 1), -9);
            due.plain(x, "two in season 39", x.plan(39, 0, lane, 0, 2), -2);
            x.parody(0, true);
            x.undo(1);
            x.tale(3, 0, 6);
            x.parody(0, true);
            due.plain(x, "in a season of parodies", x.plan(6, 0, lane, 0, 1), -9);
            due.plain(x, "behind it", x.plan(7, 0, lane, 0, 1), 0);
        }
    }

    private static void refusalsOfPlan() {
        TaleBans x = Due.steppe("s;h11;h12");
        x.tale(3, 0, 0);
        Due.writeNumbers(x, 0, 1, 3, 6, 3, -1, 0);
        due.plain(x, "sheet 4, ahead of all", x.plan(40, 4, 3, -1, -1), -1);
        due.plain(x, "sheet -1", x.plan(0, -1, 1, 0, 1), -1);
        due.plain(x, "lane 3, ahead of CAST", x.plan(0, 0, 3, 0, 1), -2);
        due.plain(x, "lane -1, ahead of NULL", x.plan(0, 1, -1, 0, 1), -2);
        due.plain(x, "season 40, ahead of CAST", x.plan(40, 0, 2, 0, 1), -2);
        due.plain(x, "season -1", x.plan(-1, 0, 1, 0, 1), -2);
        due.faulted(x, "CAST ahead of SIZE", x.plan(0, 0, 2, -1, -1), 2);
        due.faulted(x, "NULL ahead of SIZE", x.plan(0, 1, 2, -1, -1), 1);
        due.faulted(x, "SIZE ahead of INDEX", x.plan(0, 0, 1, -1, -1), 4);
        due.faulted(x, "INDEX ahead of season 39", x.plan(39, 0, 1, 0, 6), 3);
        due.faulted(x, "INDEX: i below 0", x.plan(0, 0, 1, -1, 0), 3);
        due.faulted(x, "INDEX: i beyond", x.plan(0, 0, 1, 6, 0), 3);
        due.faulted(x, "INDEX: the greatest", x.plan(39, 0, 1, 1, MAX), 3);
        due.faulted(x, "INDEX: the greatest i", x.plan(39, 0, 1, MAX, MAX), 3);
        due.faulted(x, "SIZE: the least", x.plan(39, 0, 1, 1, MIN), 4);
        due.plain(x, "beyond season 39 ahead of the deed", x.plan(39, 0, 1, 0, 2), -2);
        due.plain(x, "deed 6, though deed 3 is forbidden", x.plan(0, 0, 1, 0, 2), -1);
        due.plain(x, "deed -1", x.plan(0, 0, 1, 2, 2), -1);
        due.plain(x, "of deeds alone", x.plan(0, 0, 1, 2, 1), 0);
        TaleBans none = new TaleBans();
        due.plain(none, "sheet ahead of STATE", none.plan(0, 4, 0, 0, 0), -1);
        due.plain(none, "lane ahead of STATE", none.plan(0, 0, 3, 0, 0), -2);
        due.plain(none, "season ahead of STATE", none.plan(40, 0, 0, 0, 0), -2);
        due.plain(none, "STATE ahead of NULL", none.plan(0, 0, 0, 0, 0), -3);
        none.put(0, 0, 0);
        due.plain(none, "STATE, behind a fault", none.plan(0, 0, 0, 0, -1), -3);
    }
}
