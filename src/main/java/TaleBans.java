import java.util.Arrays;

/** Tales round the hearths of a steppe, each of which forbids a deed as long as somebody remembers it. */
public final class TaleBans {

    public static final int UNKNOWN = -1, OUTSIDE = -2, STATE = -3, FULL = -4, NONE = -9;
    public static final long LOST = Long.MIN_VALUE;

    private static final int NULL = 1, CAST = 2, INDEX = 3, SIZE = 4;
    private static final int PERSONS = 6, HEARTHS = 3, KINDS = 3, LAWS = 3;
    private static final int SEASONS = 40, DEEDS = 6;
    private static final int TALES = 6, MOVES = 8, NEEDS = 6, READINGS = 8;
    private static final int SHEETS = 4, LANES = 3, CELLS = 60;

    // What stands where in the rows of the ledgers.
    private static final int PERSON = 0, SEASON = 1;
    private static final int DEED = 2, PARODIED = 3;
    private static final int HEARTH = 2;
    private static final int TALE = 2, DID = 3;
    private static final int ONE_DEED = 0, OTHER_DEED = 1;

    private final Sheet[] sheets = new Sheet[SHEETS];
    private final Trace bodies = new Trace();
    private final Steppe land;
    private final Seasons seasons;
    private int latestFault;

    public TaleBans() {
        Steppe empty = new Steppe();
        land = empty;
        seasons = new Seasons(empty);
        for (int k = 0; k < SHEETS; k++) {
            sheets[k] = new Sheet();
        }
    }

    // ---- 1 the steppe

    public int steppe(int sheet, int lane, int i, int n) {
        latestFault = 0;
        Sheet codes = sheetAt(sheet);
        if (codes == null) {
            return UNKNOWN;
        }
        if (!isOneOf(lane, LANES)) {
            return OUTSIDE;
        }
        int fault = codes.faultOfTaking(lane, i, n);
        if (fault != 0) {
            return faulted(fault);
        }
        int firstFault = Steppe.firstFault(codes, i, n);
        if (firstFault != NONE) {
            return -100 - firstFault;
        }
        land.settle(codes, i, n);
        return land.persons;
    }

    public int ofPerson(int p, int what) {
        Herder person = land.person(p);
        if (person == null) {
            return UNKNOWN;
        }
        switch (what) {
            case 0: return person.kind();
            case 1: return person.minds;
            case 2: return person.home;
            case 3: return person.memory();
            case 4: return isIn(p, land.paid) ? 1 : 0;
            default: return OUTSIDE;
        }
    }

    public int tale(int deed, int p, int season) {
        int refusal = refusal(isOneOf(deed, DEEDS) && land.person(p) != null, isOneOf(season, SEASONS));
        if (refusal != 0) {
            return refusal;
        }
        return land.tales.add(p, season, deed, 0);
    }

    public int undo(int k) {
        int left = land.tales.takeBack(k);
        if (left != OUTSIDE) {
            land.readings.keepBelow(TALE, left);
        }
        return left;
    }

    public int move(int p, int hearth, int season) {
        int refusal = refusal(land.person(p) != null && isOneOf(hearth, HEARTHS), isOneOf(season, SEASONS));
        if (refusal != 0) {
            return refusal;
        }
        return land.moves.add(p, season, hearth, 0);
    }

    public int unmove(int k) {
        return land.moves.takeBack(k);
    }

    public int law(int v) {
        if (!isOneOf(v, LAWS)) {
            return OUTSIDE;
        }
        if (land.isEmpty()) {
            return STATE;
        }
        int before = land.law;
        land.law = v;
        return before;
    }

    public int pay(int p, boolean is) {
        if (land.person(p) == null) {
            return UNKNOWN;
        }
        if (isIn(p, land.paid) == is) {
            return 0;
        }
        land.paid ^= 1 << p;
        return 1;
    }

    public int parody(int t, boolean is) {
        if (!land.tales.has(t)) {
            return UNKNOWN;
        }
        int wanted = is ? 1 : 0;
        if (land.tales.at(t, PARODIED) == wanted) {
            return 0;
        }
        land.tales.set(t, PARODIED, wanted);
        return 1;
    }

    // ---- 2 seasons

    public int remembers(int p, int season) {
        int refusal = refusal(land.person(p) != null, isOneOf(season, SEASONS));
        if (refusal != 0) {
            return refusal;
        }
        reach(season, land.paid);
        return seasons.talesOf(p);
    }

    public int hearth(int p, int season) {
        int refusal = refusal(land.person(p) != null, isOneOf(season, SEASONS));
        if (refusal != 0) {
            return refusal;
        }
        reach(season, land.paid);
        return seasons.placeOf(p);
    }

    public int told(int hearth, int season) {
        int refusal = refusal(isOneOf(hearth, HEARTHS), isOneOf(season, SEASONS));
        if (refusal != 0) {
            return refusal;
        }
        reach(season, land.paid);
        return seasons.taleAt(hearth);
    }

    public int forbidden(int season) {
        if (!isOneOf(season, SEASONS)) {
            return OUTSIDE;
        }
        if (land.isEmpty()) {
            return STATE;
        }
        reach(season, land.paid);
        return seasons.bannedDeeds();
    }

    public int dies(int t) {
        if (!land.tales.has(t)) {
            return UNKNOWN;
        }
        return deathOf(t);
    }

    public int free(int deed, int season) {
        int refusal = refusal(isOneOf(deed, DEEDS), isOneOf(season, SEASONS));
        if (refusal != 0) {
            return refusal;
        }
        seasons.begin(land.paid, land.law);
        for (int s = 0; s < SEASONS; s++) {
            seasons.pass();
            if (s >= season && !seasons.isBanned(deed)) {
                return s;
            }
        }
        return NONE;
    }

    // ---- 3 whom to pay, whom to tell, needs

    public int fewest(int deed, int season) {
        int refusal = refusal(isOneOf(deed, DEEDS), isOneOf(season, SEASONS));
        if (refusal != 0) {
            return refusal;
        }
        int best = NONE;
        for (int more = 0; more < 1 << land.persons; more++) {
            boolean isFewer = best == NONE || Integer.bitCount(more) < Integer.bitCount(best);
            if (isFewer && (more & land.paid) == 0 && !isBannedIfPaid(deed, season, land.paid | more)) {
                best = more;
            }
        }
        return best;
    }

    public int longest(int season, int what) {
        if (!isOneOf(season, SEASONS) || !isOneOf(what, 2)) {
            return OUTSIDE;
        }
        if (land.isEmpty()) {
            return STATE;
        }
        int t = land.tales.add(0, season, 0, 0);
        if (t == FULL) {
            return FULL;
        }
        int who = 0;
        int latest = 0;
        for (int p = 0; p < land.persons; p++) {
            land.tales.set(t, PERSON, p);
            int death = deathOf(t);
            // Never counts as a SEASON behind the last one.
            int end = death == NONE ? SEASONS : death;
            if (end > latest) {
                who = p;
                latest = end;
            }
        }
        land.tales.takeBack(1);
        if (what == 0) {
            return who;
        }
        return latest == SEASONS ? NONE : latest;
    }

    public int need(int deed, int other) {
        if (!isOneOf(deed, DEEDS) || !isOneOf(other, DEEDS)) {
            return UNKNOWN;
        }
        if (land.isEmpty()) {
            return STATE;
        }
        return land.needs.add(deed, other, 0, 0);
    }

    public int clash(int what) {
        if (!isOneOf(what, 2)) {
            return OUTSIDE;
        }
        if (land.isEmpty()) {
            return STATE;
        }
        seasons.begin(land.paid, land.law);
        for (int s = 0; s < SEASONS; s++) {
            seasons.pass();
            int unmet = land.firstUnmet(seasons.bannedDeeds());
            if (unmet != NONE) {
                return what == 0 ? s : unmet;
            }
        }
        return NONE;
    }

    public int plan(int season, int sheet, int lane, int i, int n) {
        latestFault = 0;
        Sheet deeds = sheetAt(sheet);
        if (deeds == null) {
            return UNKNOWN;
        }
        if (!isOneOf(lane, LANES) || !isOneOf(season, SEASONS)) {
            return OUTSIDE;
        }
        if (land.isEmpty()) {
            return STATE;
        }
        int fault = deeds.faultOfTaking(lane, i, n);
        if (fault != 0) {
            return faulted(fault);
        }
        if (n > SEASONS - season) {
            return OUTSIDE;
        }
        if (!deeds.hasOnlyBelow(DEEDS, i, n)) {
            return UNKNOWN;
        }
        return firstBanned(season, deeds, i, n);
    }

    // ---- 4 who remembered what

    public int reading(int p, int t, int season, boolean did) {
        int refusal = refusal(land.person(p) != null && land.tales.has(t), isOneOf(season, SEASONS));
        if (refusal != 0) {
            return refusal;
        }
        return land.readings.add(p, season, t, did ? 1 : 0);
    }

    public int back(int k) {
        return land.readings.takeBack(k);
    }

    public int comes(int t) {
        if (!land.tales.has(t)) {
            return UNKNOWN;
        }
        int told = land.tales.at(t, PERSON);
        int set = 0;
        for (int p = 0; p < land.persons; p++) {
            land.tales.set(t, PERSON, p);
            if (areReadingsSo(land.paid, land.law)) {
                set |= 1 << p;
            }
        }
        land.tales.set(t, PERSON, told);
        return set;
    }

    public int paid() {
        if (land.isEmpty()) {
            return STATE;
        }
        int set = 0;
        for (int p = 0; p < land.persons; p++) {
            if (areReadingsSo(land.paid | 1 << p, land.law)) {
                set |= 1 << p;
            }
        }
        return set;
    }

    public int laws() {
        if (land.isEmpty()) {
            return STATE;
        }
        int set = 0;
        for (int v = 0; v < LAWS; v++) {
            if (areReadingsSo(land.paid, v)) {
                set |= 1 << v;
            }
        }
        return set;
    }

    public long odds(int deed, int season, int which) {
        if (refusal(isOneOf(deed, DEEDS), isOneOf(season, SEASONS) && isOneOf(which, 2)) != 0) {
            return LOST;
        }
        int sets = 1 << land.persons;
        int free = 0;
        for (int set = 0; set < sets; set++) {
            if (!isBannedIfPaid(deed, season, set)) {
                free++;
            }
        }
        // The lower number is a power of two: halving is all the shortening there is.
        int lower = sets;
        for (; lower > 1 && free % 2 == 0; lower /= 2) {
            free /= 2;
        }
        return which == 0 ? free : lower;
    }

    // ---- 5 sheets, parts

    public int sheet(int k, int lane, int n) {
        latestFault = 0;
        Sheet sheet = sheetAt(k);
        if (sheet == null) {
            return UNKNOWN;
        }
        if (!isOneOf(lane, LANES) || n > CELLS) {
            return OUTSIDE;
        }
        if (n < 0) {
            return faulted(SIZE);
        }
        sheet.renew(lane, n);
        return 1;
    }

    public int lose(int k) {
        Sheet sheet = sheetAt(k);
        if (sheet == null) {
            return UNKNOWN;
        }
        if (sheet.hasNothing()) {
            return 0;
        }
        sheet.clear();
        return 1;
    }

    public int put(int k, int i, int v) {
        latestFault = 0;
        Sheet sheet = sheetAt(k);
        if (sheet == null) {
            return UNKNOWN;
        }
        if (sheet.hasNothing()) {
            return faulted(NULL);
        }
        if (!sheet.has(i)) {
            return faulted(INDEX);
        }
        sheet.set(i, v);
        return 1;
    }

    public long cell(int k, int i, int lane) {
        latestFault = 0;
        Sheet sheet = sheetAt(k);
        if (sheet == null || !isOneOf(lane, LANES)) {
            return LOST;
        }
        latestFault = sheet.faultOfTaking(lane, i, 1);
        return latestFault != 0 ? LOST : sheet.at(i);
    }

    public int copy(int k, int i, int other, int j, int n) {
        latestFault = 0;
        Sheet from = sheetAt(k);
        Sheet to = sheetAt(other);
        if (from == null || to == null) {
            return UNKNOWN;
        }
        if (from.hasNothing() || to.hasNothing()) {
            return faulted(NULL);
        }
        if (from.lane != to.lane) {
            return faulted(CAST);
        }
        if (!from.reaches(i, n) || !to.reaches(j, n)) {
            return faulted(INDEX);
        }
        System.arraycopy(from.cells, i, to.cells, j, n);
        return n;
    }

    public int tell(int p) {
        Herder person = land.person(p);
        return person == null ? UNKNOWN : person.telling(bodies);
    }

    public int greet(int p) {
        Herder person = land.person(p);
        return person == null ? UNKNOWN : person.greeting(bodies);
    }

    public int as(int p, int kind) {
        latestFault = 0;
        Herder person = land.person(p);
        if (person == null) {
            return UNKNOWN;
        }
        if (!isOneOf(kind, KINDS)) {
            return OUTSIDE;
        }
        // A PERSON of a kind is one of all lesser kinds, too.
        return person.kind() < kind ? faulted(CAST) : 1;
    }

    public int trace() {
        return bodies.number;
    }

    public int fault() {
        return latestFault;
    }

    public int many(int what) {
        switch (what) {
            case 0: return land.persons;
            case 1: return land.tales.count;
            case 2: return land.moves.count;
            case 3: return land.needs.count;
            case 4: return land.readings.count;
            case 5: return land.law;
            default: return OUTSIDE;
        }
    }

    // ---- what several calls share

    private static boolean isOneOf(int number, int many) {
        return number >= 0 && number < many;
    }

    private static boolean isIn(int number, int set) {
        return (set >> number & 1) == 1;
    }

    /**
     * The first refusal of these, in the order in which the calls tell them; 0: none. Calls that name no
     * STATE name a PERSON or a TALE, and without a STEPPE there is none.
     */
    private int refusal(boolean isKnown, boolean isInside) {
        if (!isKnown) {
            return UNKNOWN;
        }
        if (!isInside) {
            return OUTSIDE;
        }
        return land.isEmpty() ? STATE : 0;
    }

    private Sheet sheetAt(int k) {
        return isOneOf(k, SHEETS) ? sheets[k] : null;
    }

    private int faulted(int fault) {
        latestFault = fault;
        return -10 - fault;
    }

    /** Goes through the SEASONS to the end of one, as were these PAID. */
    private void reach(int season, int paid) {
        seasons.begin(paid, land.law);
        for (int s = 0; s <= season; s++) {
            seasons.pass();
        }
    }

    private boolean isBannedIfPaid(int deed, int season, int paid) {
        reach(season, paid);
        return seasons.isBanned(deed);
    }

    private int deathOf(int t) {
        int birth = land.tales.at(t, SEASON);
        seasons.begin(land.paid, land.law);
        for (int s = 0; s < SEASONS; s++) {
            seasons.pass();
            if (s > birth && !isIn(t, seasons.talesOfAll())) {
                return s;
            }
        }
        return NONE;
    }

    private int firstBanned(int season, Sheet deeds, int i, int n) {
        seasons.begin(land.paid, land.law);
        for (int s = 0; s < season + n; s++) {
            seasons.pass();
            int place = s - season;
            if (place >= 0 && seasons.isBanned(deeds.at(i + place))) {
                return place;
            }
        }
        return NONE;
    }

    private boolean areReadingsSo(int paid, int law) {
        seasons.begin(paid, law);
        for (int s = 0; s < SEASONS; s++) {
            seasons.pass();
            if (!areReadingsSoIn(s)) {
                return false;
            }
        }
        return true;
    }

    private boolean areReadingsSoIn(int season) {
        for (int k = 0; k < land.readings.count; k++) {
            if (land.readings.at(k, SEASON) == season) {
                boolean remembered = isIn(land.readings.at(k, TALE), seasons.talesOf(land.readings.at(k, PERSON)));
                if (remembered != (land.readings.at(k, DID) == 1)) {
                    return false;
                }
            }
        }
        return true;
    }

    /** What a TEXT makes anew: the PERSONS, and all that is told of them. */
    private static final class Steppe {
        private static final int LEAST_PERSONS = 2, CODES_OF_PERSON = 4;

        private final Herder[] people = new Herder[PERSONS];
        private final Ledger tales = new Ledger(TALES);
        private final Ledger moves = new Ledger(MOVES);
        private final Ledger needs = new Ledger(NEEDS);
        private final Ledger readings = new Ledger(READINGS);
        private int persons;
        private int paid;
        private int law;

        /** The FIRST FAULT of n codes from a place on; NONE: they are a TEXT. */
        private static int firstFault(Sheet codes, int from, int n) {
            for (int place = 0; place < n; place++) {
                if (!goesOn(place, codes.at(from + place))) {
                    return place;
                }
            }
            boolean isWhole = n % CODES_OF_PERSON == 1 && n > LEAST_PERSONS * CODES_OF_PERSON;
            return isWhole ? NONE : n;
        }

        private static boolean goesOn(int place, int code) {
            if (place == 0) {
                return code == 's';
            }
            if (place > PERSONS * CODES_OF_PERSON) {
                return false;
            }
            switch (place % CODES_OF_PERSON) {
                case 1: return code == ';';
                case 2: return code == 'h' || code == 'b' || code == 'g';
                case 3: return code >= '1' && code <= '5';
                default: return code >= '0' && code <= '2';
            }
        }

        private void settle(Sheet codes, int from, int n) {
            persons = Math.min((n - 1) / CODES_OF_PERSON, PERSONS);
            for (int p = 0; p < persons; p++) {
                int letter = from + p * CODES_OF_PERSON + 2;
                people[p] = born(p, codes.at(letter), codes.at(letter + 1) - '0', codes.at(letter + 2) - '0');
            }
            tales.clear();
            moves.clear();
            needs.clear();
            readings.clear();
            paid = 0;
            law = 0;
        }

        private static Herder born(int number, int letter, int minds, int home) {
            switch (letter) {
                case 'g': return new Granny(number, minds, home);
                case 'b': return new Bard(number, minds, home);
                default: return new Herder(number, minds, home);
            }
        }

        private boolean isEmpty() {
            return persons == 0;
        }

        private Herder person(int p) {
            return isOneOf(p, persons) ? people[p] : null;
        }

        private int firstUnmet(int banned) {
            for (int k = 0; k < needs.count; k++) {
                if (isIn(needs.at(k, ONE_DEED), banned) && isIn(needs.at(k, OTHER_DEED), banned)) {
                    return k;
                }
            }
            return NONE;
        }
    }

    private static class Herder {
        private final int number;
        private final int minds;
        private final int home;

        private Herder(int number, int minds, int home) {
            this.number = number;
            this.minds = minds;
            this.home = home;
        }

        int kind() {
            return 0;
        }

        int memory() {
            return minds;
        }

        int telling(Trace bodies) {
            return herderTelling(bodies);
        }

        /** Apart from telling, for a GRANNY comes to this body past the BARD's. */
        final int herderTelling(Trace bodies) {
            bodies.leave(1);
            return minds;
        }

        int greeting(Trace bodies) {
            bodies.leave(4);
            return number;
        }
    }

    private static class Bard extends Herder {
        private Bard(int number, int minds, int home) {
            super(number, minds, home);
        }

        @Override
        int kind() {
            return 1;
        }

        @Override
        int memory() {
            return super.memory() + 2;
        }

        @Override
        int telling(Trace bodies) {
            bodies.leave(2);
            return super.telling(bodies) + 100;
        }
    }

    private static final class Granny extends Bard {
        private Granny(int number, int minds, int home) {
            super(number, minds, home);
        }

        @Override
        int kind() {
            return 2;
        }

        @Override
        int memory() {
            return 2 * super.memory();
        }

        @Override
        int telling(Trace bodies) {
            bodies.leave(3);
            int asBard = super.telling(bodies);
            return asBard + herderTelling(bodies);
        }

        @Override
        int greeting(Trace bodies) {
            bodies.leave(5);
            return 70;
        }
    }

    /** The SEASONS from 0 on, gone through one by one: what is so as the latest of them ends. */
    private static final class Seasons {
        private static final int GREATEST = 0, LONGEST_AGO = 2, NEVER = -1;

        private final Steppe land;
        private final int[] places = new int[PERSONS];
        private final int[] memories = new int[PERSONS];
        private final int[] known = new int[PERSONS];
        private final int[] lastKnown = new int[PERSONS * TALES];
        private final int[] lastTold = new int[HEARTHS * TALES];
        private final int[] toldNow = new int[HEARTHS];
        private int paid;
        private int law;
        private int season;

        private Seasons(Steppe land) {
            this.land = land;
        }

        /** To ahead of SEASON 0, as were these PAID, and this the LAW. */
        private void begin(int paidOnes, int itsLaw) {
            paid = paidOnes;
            law = itsLaw;
            season = -1;
            for (int p = 0; p < land.persons; p++) {
                Herder person = land.person(p);
                places[p] = person == null ? NONE : person.home;
                memories[p] = person == null ? 0 : person.memory();
            }
            Arrays.fill(known, 0);
            Arrays.fill(lastTold, NEVER);
        }

        private void pass() {
            season++;
            forget();
            makeMoves();
            bringTales();
            for (int hearth = 0; hearth < HEARTHS; hearth++) {
                tellAt(hearth);
            }
        }

        private void forget() {
            for (int p = 0; p < land.persons; p++) {
                for (int t = 0; t < land.tales.count; t++) {
                    if (lastKnown[p * TALES + t] < season) {
                        known[p] &= ~(1 << t);
                    }
                }
            }
        }

        private void makeMoves() {
            for (int k = 0; k < land.moves.count; k++) {
                if (land.moves.at(k, SEASON) == season) {
                    int p = land.moves.at(k, PERSON);
                    if (isOneOf(p, PERSONS)) {
                        places[p] = land.moves.at(k, HEARTH);
                    }
                }
            }
        }

        private void bringTales() {
            for (int t = 0; t < land.tales.count; t++) {
                if (land.tales.at(t, SEASON) == season) {
                    hear(land.tales.at(t, PERSON), t);
                }
            }
        }

        private void hear(int p, int t) {
            if (isOneOf(p, PERSONS) && isOneOf(t, TALES)) {
                known[p] |= 1 << t;
                lastKnown[p * TALES + t] = season + memories[p];
            }
        }

        private void tellAt(int hearth) {
            int t = chosen(hearth, knownAt(hearth));
            toldNow[hearth] = t;
            if (t == NONE) {
                return;
            }
            lastTold[hearth * TALES + t] = season;
            for (int p = 0; p < land.persons; p++) {
                if (places[p] == hearth && !isIn(p, paid)) {
                    hear(p, t);
                }
            }
        }

        private int knownAt(int hearth) {
            int set = 0;
            for (int p = 0; p < land.persons; p++) {
                if (places[p] == hearth) {
                    set |= known[p];
                }
            }
            return set;
        }

        /** The one of these TALES that the LAW has told at a HEARTH. */
        private int chosen(int hearth, int set) {
            int best = NONE;
            for (int t = 0; t < land.tales.count; t++) {
                if (isIn(t, set) && (best == NONE || isRather(hearth, t, best))) {
                    best = t;
                }
            }
            return best;
        }

        /** Whether a TALE is TOLD rather than the best of those of lesser numbers. */
        private boolean isRather(int hearth, int t, int best) {
            if (law == LONGEST_AGO) {
                return lastTold[hearth * TALES + t] < lastTold[hearth * TALES + best];
            }
            return law == GREATEST;
        }

        private int talesOf(int p) {
            return isOneOf(p, PERSONS) ? known[p] : 0;
        }

        private int talesOfAll() {
            int set = 0;
            for (int p = 0; p < land.persons; p++) {
                set |= known[p];
            }
            return set;
        }

        private int placeOf(int p) {
            return isOneOf(p, PERSONS) ? places[p] : NONE;
        }

        private int taleAt(int hearth) {
            return isOneOf(hearth, HEARTHS) ? toldNow[hearth] : NONE;
        }

        private int bannedDeeds() {
            int remembered = talesOfAll();
            int set = 0;
            for (int t = 0; t < land.tales.count; t++) {
                if (isIn(t, remembered) && !isLaughedAt(t)) {
                    set |= 1 << land.tales.at(t, DEED);
                }
            }
            return set;
        }

        private boolean isBanned(int deed) {
            return isIn(deed, bannedDeeds());
        }

        private boolean isLaughedAt(int t) {
            // 6, 13, 20, 27 and 34 are just those of 0 .. 39 that leave 6 when divided by 7.
            return season % 7 == 6 && land.tales.at(t, PARODIED) == 1;
        }
    }

    /** Numbered rows of a few numbers each; their room is made once, and used again. */
    private static final class Ledger {
        private static final int WIDTH = 4;

        private final int limit;
        private final int[] cells;
        private int count;

        private Ledger(int limit) {
            this.limit = limit;
            this.cells = new int[limit * WIDTH];
        }

        private boolean has(int k) {
            return k >= 0 && k < count;
        }

        private int at(int k, int column) {
            return has(k) && isOneOf(column, WIDTH) ? cells[k * WIDTH + column] : NONE;
        }

        private void set(int k, int column, int v) {
            if (has(k) && isOneOf(column, WIDTH)) {
                cells[k * WIDTH + column] = v;
            }
        }

        /** The number of the new row; FULL: there is no room for it. */
        private int add(int first, int second, int third, int fourth) {
            if (count >= limit) {
                return FULL;
            }
            count++;
            set(count - 1, 0, first);
            set(count - 1, 1, second);
            set(count - 1, 2, third);
            set(count - 1, 3, fourth);
            return count - 1;
        }

        /** How many rows are left without the last k; OUTSIDE: there are not so many. */
        private int takeBack(int k) {
            if (k < 0 || k > count) {
                return OUTSIDE;
            }
            count -= k;
            return count;
        }

        /** Only rows with a lesser number than that in a column stay, in their order. */
        private void keepBelow(int column, int bound) {
            int kept = 0;
            for (int k = 0; k < count; k++) {
                if (at(k, column) < bound) {
                    System.arraycopy(cells, k * WIDTH, cells, kept * WIDTH, WIDTH);
                    kept++;
                }
            }
            count = kept;
        }

        private void clear() {
            count = 0;
        }
    }

    /** Nothing, or a row of numbers of a LANE; its room is made once, and used again. */
    private static final class Sheet {
        private static final int NO_LANE = -1;

        private final int[] cells = new int[CELLS];
        private int lane = NO_LANE;
        private int length;

        private boolean hasNothing() {
            return lane == NO_LANE;
        }

        private boolean has(int i) {
            return isOneOf(i, length);
        }

        private boolean reaches(int i, int n) {
            return i >= 0 && n >= 0 && i <= length - n;
        }

        private void renew(int itsLane, int n) {
            lane = itsLane;
            length = Math.min(n, CELLS);
            Arrays.fill(cells, 0);
        }

        private void clear() {
            lane = NO_LANE;
            length = 0;
        }

        private int at(int i) {
            return has(i) ? cells[i] : 0;
        }

        private void set(int i, int v) {
            if (has(i)) {
                cells[i] = cut(v);
            }
        }

        private int cut(int v) {
            switch (lane) {
                case 0: return (byte) v;
                case 1: return (short) v;
                default: return v;
            }
        }

        /** The FAULT of taking n cells from i on as a row of a LANE; 0: none. */
        private int faultOfTaking(int asLane, int i, int n) {
            if (!hasNothing() && lane != asLane) {
                return CAST;
            }
            if (hasNothing()) {
                return NULL;
            }
            if (n < 0) {
                return SIZE;
            }
            return reaches(i, n) ? 0 : INDEX;
        }

        private boolean hasOnlyBelow(int bound, int from, int n) {
            for (int i = from; i < from + n; i++) {
                if (!isOneOf(at(i), bound)) {
                    return false;
                }
            }
            return true;
        }
    }

    /** The TRACE that bodies leave as they begin. */
    private static final class Trace {
        private int number;

        private void leave(int body) {
            number = 31 * number + body;
        }
    }
}
