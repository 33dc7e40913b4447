import java.util.ArrayList;
import java.util.Arrays;
import java.util.List;
import java.util.TreeSet;
import java.util.function.IntPredicate;
import java.util.regex.Pattern;

/**
 * The document read once more, as literally as may be and with no thought of speed: every question
 * goes through the whole history, and each Term is a predicate over who heard what when.
 */
final class Model {
    record Person(char letter, int minds, int home) {
        int memory() {
            return letter == 'h' ? minds : letter == 'b' ? minds + 2 : 2 * (minds + 2);
        }

        int kind() {
            return "hbg".indexOf(letter);
        }
    }

    static final class Tale {
        final int deed;
        int person;
        final int season;
        boolean parodied;

        Tale(int deed, int person, int season) {
            this.deed = deed;
            this.person = person;
            this.season = season;
        }
    }

    record Move(int person, int hearth, int season) { }

    record Need(int deed, int other) { }

    record Reading(int person, Tale tale, int season, boolean did) { }

    static final class Row {
        final int lane;
        final long[] cells;

        Row(int lane, int n) {
            this.lane = lane;
            this.cells = new long[n];
        }
    }

    /** A machine's FAULT. */
    static final class Fault extends RuntimeException {
        private static final long serialVersionUID = 1;
        final int number;

        Fault(int number) {
            this.number = number;
        }
    }

    private static final Pattern TEXT = Pattern.compile("s(;[hbg][1-5][0-2]){2,6}", Pattern.DOTALL);

    private List<Person> people = new ArrayList<>();
    private List<Tale> tales = new ArrayList<>();
    private List<Move> moves = new ArrayList<>();
    private List<Need> needs = new ArrayList<>();
    private List<Reading> readings = new ArrayList<>();
    private TreeSet<Integer> paidOnes = new TreeSet<>();
    private int theLaw;
    private final Row[] sheets = new Row[4];
    private int theTrace;
    private int theFault;

    /** What came of the SEASONS: who heard what when, and which one was told where. */
    private final class History {
        final boolean[][][] heard = new boolean[40][people.size()][tales.size()];
        final int[][] toldAt = new int[40][3];
        final int[][] places = new int[40][people.size()];

        History(TreeSet<Integer> paid, int law) {
            for (int season = 0; season < 40; season++) {
                for (int p = 0; p < people.size(); p++) {
                    places[season][p] = placeOf(p, season);
                }
                for (Tale tale : tales) {
                    if (tale.season == season) {
                        heard[season][tale.person][tales.indexOf(tale)] = true;
                    }
                }
                for (int hearth = 0; hearth < 3; hearth++) {
                    toldAt[season][hearth] = chosen(season, hearth, law);
                }
                for (int p = 0; p < people.size(); p++) {
                    int tale = toldAt[season][places[season][p]];
                    if (tale >= 0 && !paid.contains(p)) {
                        heard[season][p][tale] = true;
                    }
                }
            }
        }

        boolean remembers(int p, int tale, int season) {
            for (int ago = 0; ago <= people.get(p).memory(); ago++) {
                if (season - ago >= 0 && heard[season - ago][p][tale]) {
                    return true;
                }
            }
            return false;
        }

        boolean somebodyRemembers(int tale, int season) {
            return anyOf(people.size(), p -> remembers(p, tale, season));
        }

        int chosen(int season, int hearth, int law) {
            List<Integer> candidates = new ArrayList<>();
            for (int t = 0; t < tales.size(); t++) {
                int tale = t;
                if (anyOf(people.size(), p -> places[season][p] == hearth && remembers(p, tale, season))) {
                    candidates.add(t);
                }
            }
            if (candidates.isEmpty()) {
                return -9;
            }
            if (law == 2) {
                // A stable sort keeps the least number ahead of the others told as long ago.
                candidates.sort((a, b) -> Integer.compare(latest(a, hearth, season), latest(b, hearth, season)));
            }
            return candidates.get(law == 0 ? candidates.size() - 1 : 0);
        }

        int latest(int tale, int hearth, int season) {
            for (int s = season - 1; s >= 0; s--) {
                if (toldAt[s][hearth] == tale) {
                    return s;
                }
            }
            return -1;
        }

        boolean isForbidden(int deed, int season) {
            boolean laughs = Arrays.asList(6, 13, 20, 27, 34).contains(season);
            return anyOf(tales.size(), t -> tales.get(t).deed == deed && somebodyRemembers(t, season)
                && !(laughs && tales.get(t).parodied));
        }

        int dies(int tale) {
            for (int s = tales.get(tale).season + 1; s < 40; s++) {
                if (!somebodyRemembers(tale, s)) {
                    return s;
                }
            }
            return -9;
        }

        boolean allReadingsAreSo() {
            return readings.stream().allMatch(r -> remembers(r.person, tales.indexOf(r.tale), r.season) == r.did);
        }
    }

    private static boolean anyOf(int many, IntPredicate is) {
        for (int k = 0; k < many; k++) {
            if (is.test(k)) {
                return true;
            }
        }
        return false;
    }

    private static int set(int many, IntPredicate is) {
        int bits = 0;
        for (int k = 0; k < many; k++) {
            bits += is.test(k) ? 1 << k : 0;
        }
        return bits;
    }

    private static TreeSet<Integer> members(int bits) {
        TreeSet<Integer> members = new TreeSet<>();
        for (int k = 0; k < 32; k++) {
            if ((bits & 1 << k) != 0) {
                members.add(k);
            }
        }
        return members;
    }

    private static <T> TreeSet<T> both(TreeSet<T> one, TreeSet<T> other) {
        TreeSet<T> all = new TreeSet<>(one);
        all.addAll(other);
        return all;
    }

    private History now() {
        return new History(paidOnes, theLaw);
    }

    private int placeOf(int p, int season) {
        int place = people.get(p).home;
        for (int s = 0; s <= season; s++) {
            for (Move move : moves) {
                if (move.season == s && move.person == p) {
                    place = move.hearth;
                }
            }
        }
        return place;
    }

    private static boolean in(int v, int many) {
        return 0 <= v && v < many;
    }

    private boolean isPerson(int p) {
        return in(p, people.size());
    }

    private static <T> List<T> without(List<T> all, int k) {
        return new ArrayList<>(all.subList(0, all.size() - k));
    }

    private static long[] row(Row row, int lane, int i, int n) {
        if (row != null && row.lane != lane) {
            throw new Fault(2);
        }
        if (row == null) {
            throw new Fault(1);
        }
        if (n < 0) {
            throw new Fault(4);
        }
        if (i < 0 || (long) i + n > row.cells.length) {
            throw new Fault(3);
        }
        return Arrays.copyOfRange(row.cells, i, i + n);
    }

    private long outcome(java.util.function.LongSupplier call, boolean isLong) {
        theFault = 0;
        try {
            return call.getAsLong();
        } catch (Fault fault) {
            theFault = fault.number;
            return isLong ? Long.MIN_VALUE : -10 - fault.number;
        }
    }

    // ---- the calls

    int steppe(int sheet, int lane, int i, int n) {
        return (int) outcome(() -> settled(sheet, lane, i, n), false);
    }

    private int settled(int sheet, int lane, int i, int n) {
        if (!in(sheet, 4)) {
            return -1;
        }
        if (!in(lane, 3)) {
            return -2;
        }
        StringBuilder text = new StringBuilder();
        for (long code : row(sheets[sheet], lane, i, n)) {
            text.append(in((int) code, 256) ? (char) code : '?');
        }
        if (!TEXT.matcher(text).matches()) {
            return -100 - firstFault(text.toString());
        }
        people = new ArrayList<>();
        for (String person : text.substring(2).split(";")) {
            people.add(new Person(person.charAt(0), person.charAt(1) - '0', person.charAt(2) - '0'));
        }
        tales = new ArrayList<>();
        moves = new ArrayList<>();
        needs = new ArrayList<>();
        readings = new ArrayList<>();
        paidOnes = new TreeSet<>();
        theLaw = 0;
        return people.size();
    }

    /** The longest beginning that some TEXT has, too: how many codes it has. */
    private static int firstFault(String codes) {
        String whole = "s;h10;h10;h10;h10;h10;h10";
        int place = 0;
        while (place < codes.length() && place < whole.length()) {
            String tried = codes.substring(0, place + 1);
            if (!TEXT.matcher(tried + whole.substring(place + 1)).matches()) {
                break;
            }
            place++;
        }
        return place;
    }

    int ofPerson(int p, int what) {
        if (!isPerson(p)) {
            return -1;
        }
        if (!in(what, 5)) {
            return -2;
        }
        Person person = people.get(p);
        return new int[] {person.kind(), person.minds, person.home, person.memory(), paidOnes.contains(p) ? 1 : 0}[what];
    }

    int tale(int deed, int p, int season) {
        if (!in(deed, 6) || !isPerson(p)) {
            return -1;
        }
        if (!in(season, 40)) {
            return -2;
        }
        if (tales.size() == 6) {
            return -4;
        }
        tales.add(new Tale(deed, p, season));
        return tales.size() - 1;
    }

    int undo(int k) {
        if (!in(k, tales.size() + 1)) {
            return -2;
        }
        tales = without(tales, k);
        readings.removeIf(reading -> !tales.contains(reading.tale));
        return tales.size();
    }

    int move(int p, int hearth, int season) {
        if (!isPerson(p) || !in(hearth, 3)) {
            return -1;
        }
        if (!in(season, 40)) {
            return -2;
        }
        if (moves.size() == 8) {
            return -4;
        }
        moves.add(new Move(p, hearth, season));
        return moves.size() - 1;
    }

    int unmove(int k) {
        if (!in(k, moves.size() + 1)) {
            return -2;
        }
        moves = without(moves, k);
        return moves.size();
    }

    int law(int v) {
        if (!in(v, 3)) {
            return -2;
        }
        if (people.isEmpty()) {
            return -3;
        }
        int was = theLaw;
        theLaw = v;
        return was;
    }

    int pay(int p, boolean is) {
        if (!isPerson(p)) {
            return -1;
        }
        return (is ? paidOnes.add(p) : paidOnes.remove(p)) ? 1 : 0;
    }

    int parody(int t, boolean is) {
        if (!in(t, tales.size())) {
            return -1;
        }
        boolean was = tales.get(t).parodied;
        tales.get(t).parodied = is;
        return was == is ? 0 : 1;
    }

    int remembers(int p, int season) {
        if (!isPerson(p)) {
            return -1;
        }
        if (!in(season, 40)) {
            return -2;
        }
        History history = now();
        return set(tales.size(), t -> history.remembers(p, t, season));
    }

    int hearth(int p, int season) {
        if (!isPerson(p)) {
            return -1;
        }
        return in(season, 40) ? placeOf(p, season) : -2;
    }

    int told(int hearth, int season) {
        if (!in(hearth, 3)) {
            return -1;
        }
        if (!in(season, 40)) {
            return -2;
        }
        return people.isEmpty() ? -3 : now().toldAt[season][hearth];
    }

    int forbidden(int season) {
        if (!in(season, 40)) {
            return -2;
        }
        if (people.isEmpty()) {
            return -3;
        }
        History history = now();
        return set(6, deed -> history.isForbidden(deed, season));
    }

    int dies(int t) {
        return in(t, tales.size()) ? now().dies(t) : -1;
    }

    int free(int deed, int season) {
        if (!in(deed, 6)) {
            return -1;
        }
        if (!in(season, 40)) {
            return -2;
        }
        if (people.isEmpty()) {
            return -3;
        }
        History history = now();
        for (int s = season; s < 40; s++) {
            if (!history.isForbidden(deed, s)) {
                return s;
            }
        }
        return -9;
    }

    int fewest(int deed, int season) {
        if (!in(deed, 6)) {
            return -1;
        }
        if (!in(season, 40)) {
            return -2;
        }
        if (people.isEmpty()) {
            return -3;
        }
        for (int size = 0; size <= people.size(); size++) {
            for (int more = 0; more < 1 << people.size(); more++) {
                TreeSet<Integer> payees = both(paidOnes, members(more));
                if (members(more).size() == size && !new History(payees, theLaw).isForbidden(deed, season)) {
                    return more;
                }
            }
        }
        return -9;
    }

    int longest(int season, int what) {
        if (!in(season, 40) || !in(what, 2)) {
            return -2;
        }
        if (people.isEmpty()) {
            return -3;
        }
        if (tales.size() == 6) {
            return -4;
        }
        int[] ends = new int[people.size()];
        for (int p = 0; p < ends.length; p++) {
            tales.add(new Tale(0, p, season));
            int end = now().dies(tales.size() - 1);
            ends[p] = end == -9 ? 1000 : end;
            tales.remove(tales.size() - 1);
        }
        int latest = Arrays.stream(ends).max().getAsInt();
        int who = 0;
        while (ends[who] != latest) {
            who++;
        }
        return what == 0 ? who : latest == 1000 ? -9 : latest;
    }

    int need(int deed, int other) {
        if (!in(deed, 6) || !in(other, 6)) {
            return -1;
        }
        if (people.isEmpty()) {
            return -3;
        }
        if (needs.size() == 6) {
            return -4;
        }
        needs.add(new Need(deed, other));
        return needs.size() - 1;
    }

    int clash(int what) {
        if (!in(what, 2)) {
            return -2;
        }
        if (people.isEmpty()) {
            return -3;
        }
        History history = now();
        for (int s = 0; s < 40; s++) {
            for (Need need : needs) {
                if (history.isForbidden(need.deed, s) && history.isForbidden(need.other, s)) {
                    return what == 0 ? s : needs.indexOf(need);
                }
            }
        }
        return -9;
    }

    int plan(int season, int sheet, int lane, int i, int n) {
        return (int) outcome(() -> planned(season, sheet, lane, i, n), false);
    }

    private int planned(int season, int sheet, int lane, int i, int n) {
        if (!in(sheet, 4)) {
            return -1;
        }
        if (!in(lane, 3) || !in(season, 40)) {
            return -2;
        }
        if (people.isEmpty()) {
            return -3;
        }
        long[] deeds = row(sheets[sheet], lane, i, n);
        if (season + n - 1 > 39) {
            return -2;
        }
        if (Arrays.stream(deeds).anyMatch(deed -> deed < 0 || deed > 5)) {
            return -1;
        }
        History history = now();
        for (int place = 0; place < n; place++) {
            if (history.isForbidden((int) deeds[place], season + place)) {
                return place;
            }
        }
        return -9;
    }

    int reading(int p, int t, int season, boolean did) {
        if (!isPerson(p) || !in(t, tales.size())) {
            return -1;
        }
        if (!in(season, 40)) {
            return -2;
        }
        if (readings.size() == 8) {
            return -4;
        }
        readings.add(new Reading(p, tales.get(t), season, did));
        return readings.size() - 1;
    }

    int back(int k) {
        if (!in(k, readings.size() + 1)) {
            return -2;
        }
        readings = without(readings, k);
        return readings.size();
    }

    int comes(int t) {
        if (!in(t, tales.size())) {
            return -1;
        }
        int told = tales.get(t).person;
        int set = set(people.size(), p -> {
            tales.get(t).person = p;
            return now().allReadingsAreSo();
        });
        tales.get(t).person = told;
        return set;
    }

    int paid() {
        if (people.isEmpty()) {
            return -3;
        }
        return set(people.size(), p -> new History(both(paidOnes, members(1 << p)), theLaw).allReadingsAreSo());
    }

    int laws() {
        return people.isEmpty() ? -3 : set(3, v -> new History(paidOnes, v).allReadingsAreSo());
    }

    long odds(int deed, int season, int which) {
        if (!in(deed, 6) || !in(season, 40) || !in(which, 2) || people.isEmpty()) {
            return Long.MIN_VALUE;
        }
        int all = 0;
        int good = 0;
        for (int paid = 0; paid < 1 << people.size(); paid++) {
            all++;
            good += new History(members(paid), theLaw).isForbidden(deed, season) ? 0 : 1;
        }
        int common = java.math.BigInteger.valueOf(all).gcd(java.math.BigInteger.valueOf(good)).intValue();
        return which == 0 ? good / common : all / common;
    }

    int sheet(int k, int lane, int n) {
        return (int) outcome(() -> {
            if (!in(k, 4)) {
                return -1;
            }
            if (!in(lane, 3) || n > 60) {
                return -2;
            }
            if (n < 0) {
                throw new Fault(4);
            }
            sheets[k] = new Row(lane, n);
            return 1;
        }, false);
    }

    int lose(int k) {
        if (!in(k, 4)) {
            return -1;
        }
        int had = sheets[k] == null ? 0 : 1;
        sheets[k] = null;
        return had;
    }

    int put(int k, int i, int v) {
        return (int) outcome(() -> {
            if (!in(k, 4)) {
                return -1;
            }
            if (sheets[k] == null) {
                throw new Fault(1);
            }
            if (!in(i, sheets[k].cells.length)) {
                throw new Fault(3);
            }
            long wide = sheets[k].lane == 0 ? 1L << 8 : sheets[k].lane == 1 ? 1L << 16 : 1L << 32;
            long cut = Math.floorMod((long) v, wide);
            sheets[k].cells[i] = cut >= wide / 2 ? cut - wide : cut;
            return 1;
        }, false);
    }

    long cell(int k, int i, int lane) {
        return outcome(() -> !in(k, 4) || !in(lane, 3) ? Long.MIN_VALUE : row(sheets[k], lane, i, 1)[0], true);
    }

    int copy(int k, int i, int other, int j, int n) {
        return (int) outcome(() -> {
            if (!in(k, 4) || !in(other, 4)) {
                return -1;
            }
            if (sheets[k] == null || sheets[other] == null) {
                throw new Fault(1);
            }
            if (sheets[k].lane != sheets[other].lane) {
                throw new Fault(2);
            }
            long[] from = sheets[k].cells.clone();
            long[] to = sheets[other].cells;
            if (i < 0 || j < 0 || n < 0 || (long) i + n > from.length || (long) j + n > to.length) {
                throw new Fault(3);
            }
            for (int c = 0; c < n; c++) {
                to[j + c] = from[i + c];
            }
            return n;
        }, false);
    }

    private void body(int number) {
        theTrace = theTrace * 31 + number;
    }

    int tell(int p) {
        if (!isPerson(p)) {
            return -1;
        }
        int minds = people.get(p).minds;
        switch (people.get(p).letter) {
            case 'h':
                body(1);
                return minds;
            case 'b':
                body(2);
                body(1);
                return minds + 100;
            default:
                body(3);
                body(2);
                body(1);
                body(1);
                return minds + 100 + minds;
        }
    }

    int greet(int p) {
        if (!isPerson(p)) {
            return -1;
        }
        boolean granny = people.get(p).letter == 'g';
        body(granny ? 5 : 4);
        return granny ? 70 : p;
    }

    int as(int p, int kind) {
        return (int) outcome(() -> {
            if (!isPerson(p)) {
                return -1;
            }
            if (!in(kind, 3)) {
                return -2;
            }
            if (people.get(p).kind() < kind) {
                throw new Fault(2);
            }
            return 1;
        }, false);
    }

    int trace() {
        return theTrace;
    }

    int fault() {
        return theFault;
    }

    int many(int what) {
        int[] all = {people.size(), tales.size(), moves.size(), needs.size(), readings.size(), theLaw};
        return in(what, 6) ? all[what] : -2;
    }
}
