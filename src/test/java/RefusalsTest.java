import java.lang.reflect.Method;
import java.util.ArrayList;
import java.util.Arrays;
import java.util.LinkedHashMap;
import java.util.List;
import java.util.Map;

/**
 * The refusals and FAULTS that the calls' lines name, each call as one row: any two of its arguments are
 * too small, too large or just as told, on no steppe, on one with room, on a full one. The first that is
 * come to is told, in the order of the line, and nothing is changed but fault().
 */
public final class RefusalsTest {
    private static final int MIN = Integer.MIN_VALUE, MAX = Integer.MAX_VALUE;
    private static final long LOST = Long.MIN_VALUE;
    private static final int[] NUMBERS = {MIN, MIN + 1, -2, -1, 0, 1, 2, 3, 4, 5, 6, 7, 8, 9, 38, 39, 40, 41, 59, 60, 61, MAX - 1, MAX};
    private static final int CALLS_OF_AN_OBJECT = 512;
    private static final Due due = new Due();

    /** What a line says of a call: in which case it is refused so. */
    interface Case {
        boolean is(World w, int[] a);
    }

    /** The answer that is due, and the FAULT: 0 of a refusal. */
    record Clause(int answer, int fault, Case when) { }

    /** What the document says of a call, and arguments with which it is taken on a steppe with room. */
    record Line(int[] taken, boolean namesFaults, Clause... clauses) { }

    /** How many there are of what, told without asking the object. */
    record World(String name, int persons, int tales, int moves, int needs, int readings) { }

    private static final World NONE_THERE = new World("no steppe", 0, 0, 0, 0, 0);
    private static final World WITH_ROOM = new World("a steppe with room", 3, 2, 3, 1, 4);
    private static final World FULL_UP = new World("a full steppe", 6, 6, 8, 6, 8);

    /** Sheet 0 has four bytes, 1 five shorts, 2 sixty ints; 3 has nothing. */
    private static final int[] LANES = {0, 1, 2, -1}, LENGTHS = {4, 5, 60, 0};
    private static final int[][] DEEDS = {{0, 5, 6, -1}, {5, 4, 3, 2, 1}};

    private static final Map<String, Line> LINES = new LinkedHashMap<>();

    static {
        put("steppe", faults(2, 2, 0, 9), unknown((w, a) -> !in(a[0], 4)), outside((w, a) -> !in(a[1], 3)),
            cast((w, a) -> isCast(a[0], a[1])), nothing((w, a) -> isNothing(a[0])), size((w, a) -> a[3] < 0),
            index((w, a) -> isBeyond(a[0], a[2], a[3])),
            // No row begins with a TEXT's first code: the FIRST FAULT is 0, of no codes, too.
            new Clause(-100, 0, (w, a) -> true));
        put("ofPerson", plain(0, 0), unknown((w, a) -> !in(a[0], w.persons)), outside((w, a) -> !in(a[1], 5)));
        put("tale", plain(0, 0, 0), unknown((w, a) -> !in(a[0], 6)), unknown((w, a) -> !in(a[1], w.persons)),
            outside((w, a) -> !in(a[2], 40)), full((w, a) -> w.tales == 6));
        put("undo", plain(0), outside((w, a) -> !in(a[0], w.tales + 1)));
        put("move", plain(0, 0, 0), unknown((w, a) -> !in(a[0], w.persons)), unknown((w, a) -> !in(a[1], 3)),
            outside((w, a) -> !in(a[2], 40)), full((w, a) -> w.moves == 8));
        put("unmove", plain(0), outside((w, a) -> !in(a[0], w.moves + 1)));
        put("law", plain(0), outside((w, a) -> !in(a[0], 3)), state());
        put("pay", plain(0, 0), unknown((w, a) -> !in(a[0], w.persons)));
        put("parody", plain(0, 0), unknown((w, a) -> !in(a[0], w.tales)));

        put("remembers", plain(0, 0), unknown((w, a) -> !in(a[0], w.persons)), outside((w, a) -> !in(a[1], 40)));
        put("hearth", plain(0, 0), unknown((w, a) -> !in(a[0], w.persons)), outside((w, a) -> !in(a[1], 40)));
        put("told", plain(0, 0), unknown((w, a) -> !in(a[0], 3)), outside((w, a) -> !in(a[1], 40)), state());
        put("forbidden", plain(0), outside((w, a) -> !in(a[0], 40)), state());
        put("dies", plain(0), unknown((w, a) -> !in(a[0], w.tales)));
        put("free", plain(0, 0), unknown((w, a) -> !in(a[0], 6)), outside((w, a) -> !in(a[1], 40)), state());

        put("fewest", plain(0, 0), unknown((w, a) -> !in(a[0], 6)), outside((w, a) -> !in(a[1], 40)), state());
        put("longest", plain(0, 0), outside((w, a) -> !in(a[0], 40)), outside((w, a) -> !in(a[1], 2)), state(),
            full((w, a) -> w.tales == 6));
        put("need", plain(0, 0), unknown((w, a) -> !in(a[0], 6)), unknown((w, a) -> !in(a[1], 6)), state(),
            full((w, a) -> w.needs == 6));
        put("clash", plain(0), outside((w, a) -> !in(a[0], 2)), state());
        put("plan", faults(0, 1, 1, 0, 4), unknown((w, a) -> !in(a[1], 4)), outside((w, a) -> !in(a[2], 3)),
            outside((w, a) -> !in(a[0], 40)), state(), cast((w, a) -> isCast(a[1], a[2])),
            nothing((w, a) -> isNothing(a[1])), size((w, a) -> a[4] < 0),
            index((w, a) -> isBeyond(a[1], a[3], a[4])), outside((w, a) -> a[0] + a[4] > 40),
            unknown((w, a) -> hasUnknownDeed(a[1], a[3], a[4])));

        put("reading", plain(0, 0, 0, 0), unknown((w, a) -> !in(a[0], w.persons)),
            unknown((w, a) -> !in(a[1], w.tales)), outside((w, a) -> !in(a[2], 40)), full((w, a) -> w.readings == 8));
        put("back", plain(0), outside((w, a) -> !in(a[0], w.readings + 1)));
        put("comes", plain(0), unknown((w, a) -> !in(a[0], w.tales)));
        put("paid", plain(), state());
        put("laws", plain(), state());
        put("odds", plain(0, 0, 0), unknown((w, a) -> !in(a[0], 6)), outside((w, a) -> !in(a[1], 40)),
            outside((w, a) -> !in(a[2], 2)), state());

        put("sheet", faults(3, 0, 0), unknown((w, a) -> !in(a[0], 4)), outside((w, a) -> !in(a[1], 3)),
            outside((w, a) -> a[2] > 60), size((w, a) -> a[2] < 0));
        put("lose", plain(0), unknown((w, a) -> !in(a[0], 4)));
        put("put", faults(0, 0, 0), unknown((w, a) -> !in(a[0], 4)), nothing((w, a) -> isNothing(a[0])),
            index((w, a) -> !in(a[1], LENGTHS[a[0]])));
        put("cell", faults(0, 0, 0), unknown((w, a) -> !in(a[0], 4)), outside((w, a) -> !in(a[2], 3)),
            cast((w, a) -> isCast(a[0], a[2])), nothing((w, a) -> isNothing(a[0])),
            index((w, a) -> !in(a[1], LENGTHS[a[0]])));
        put("copy", faults(0, 0, 0, 0, 1), unknown((w, a) -> !in(a[0], 4)), unknown((w, a) -> !in(a[2], 4)),
            nothing((w, a) -> isNothing(a[0])), nothing((w, a) -> isNothing(a[2])),
            cast((w, a) -> LANES[a[0]] != LANES[a[2]]),
            index((w, a) -> a[1] < 0 || a[3] < 0 || a[4] < 0 || isBeyond(a[0], a[1], a[4]) || isBeyond(a[2], a[3], a[4])));
        put("tell", plain(0), unknown((w, a) -> !in(a[0], w.persons)));
        put("greet", plain(0), unknown((w, a) -> !in(a[0], w.persons)));
        put("as", faults(0, 0), unknown((w, a) -> !in(a[0], w.persons)), outside((w, a) -> !in(a[1], 3)),
            cast((w, a) -> kindOf(a[0]) < a[1]));
        put("many", plain(0), outside((w, a) -> !in(a[0], 6)));
    }

    private static void put(String call, Line head, Clause... clauses) {
        LINES.put(call, new Line(head.taken, head.namesFaults, clauses));
    }

    private static Line plain(int... taken) {
        return new Line(taken, false);
    }

    private static Line faults(int... taken) {
        return new Line(taken, true);
    }

    private static Clause unknown(Case when) {
        return new Clause(-1, 0, when);
    }

    private static Clause outside(Case when) {
        return new Clause(-2, 0, when);
    }

    private static Clause state() {
        return new Clause(-3, 0, (w, a) -> w.persons == 0);
    }

    private static Clause full(Case when) {
        return new Clause(-4, 0, when);
    }

    private static Clause nothing(Case when) {
        return new Clause(-11, 1, when);
    }

    private static Clause cast(Case when) {
        return new Clause(-12, 2, when);
    }

    private static Clause index(Case when) {
        return new Clause(-13, 3, when);
    }

    private static Clause size(Case when) {
        return new Clause(-14, 4, when);
    }

    private static boolean in(int number, int many) {
        return 0 <= number && number < many;
    }

    private static boolean isNothing(int sheet) {
        return LANES[sheet] == -1;
    }

    private static boolean isCast(int sheet, int lane) {
        return !isNothing(sheet) && LANES[sheet] != lane;
    }

    private static boolean isBeyond(int sheet, int i, int n) {
        return i < 0 || (long) i + n > LENGTHS[sheet];
    }

    private static boolean hasUnknownDeed(int sheet, int i, int n) {
        return sheet < 2 && Arrays.stream(DEEDS[sheet], i, i + n).anyMatch(deed -> !in(deed, 6));
    }

    /** The steppes of the test have the kinds h, b, g, h, b, g. */
    private static int kindOf(int p) {
        return p % 3;
    }

    // ---- the objects

    private static TaleBans objectOf(World w) {
        TaleBans x = new TaleBans();
        if (w.persons > 0) {
            Due.settle(x, "s;h20;b11;g32;h50;b41;g12".substring(0, 1 + 4 * w.persons));
            tellOf(x, w);
        }
        Due.writeNumbers(x, 0, 0, DEEDS[0]);
        Due.writeNumbers(x, 1, 1, DEEDS[1]);
        x.sheet(2, 2, 60);
        x.put(2, 59, MAX);
        x.lose(3);
        return x;
    }

    private static void tellOf(TaleBans x, World w) {
        for (int t = 0; t < w.tales; t++) {
            x.tale(t, t % w.persons, 3 * t);
        }
        for (int k = 0; k < w.moves; k++) {
            x.move(k % w.persons, (k + 1) % 3, 2 * k);
        }
        for (int k = 0; k < w.needs; k++) {
            x.need(k, k == 0 ? 0 : k - 1);
        }
        for (int k = 0; k < w.readings; k++) {
            // As is so, that LAWS and BOUGHT tell of a reading more or less.
            int p = k % w.persons;
            int t = k % w.tales;
            x.reading(p, t, 5 * k, (x.remembers(p, 5 * k) >> t & 1) == 1);
        }
        x.parody(0, true);
        x.pay(1, true);
        x.law(2);
        x.tell(0);
    }

    /** What an object answers to many questions that change nothing (but fault()). */
    private static List<Long> portrait(TaleBans x) {
        List<Long> answers = new ArrayList<>();
        answers.add((long) x.trace());
        for (int what = 0; what < 6; what++) {
            answers.add((long) x.many(what));
        }
        for (int k = 0; k < 6; k++) {
            answers.add((long) x.ofPerson(k, 0));
            answers.add((long) x.ofPerson(k, 4));
            answers.add((long) x.dies(k));
            answers.add((long) x.comes(k));
            for (int season = k; season < 40; season += 13) {
                answers.add((long) x.hearth(k, season));
                answers.add((long) x.remembers(k, season));
                answers.add((long) x.told(k % 3, season));
                answers.add((long) x.forbidden(season));
            }
        }
        answers.add((long) x.clash(0));
        answers.add((long) x.clash(1));
        answers.add((long) x.paid());
        answers.add((long) x.laws());
        for (int sheet = 0; sheet < 4; sheet++) {
            for (int i : new int[] {0, 1, 3, 4, 58, 59}) {
                answers.add(x.cell(sheet, i, sheet));
            }
        }
        return answers;
    }

    // ---- the calls

    public static void main(String[] args) throws Exception {
        for (World w : new World[] {NONE_THERE, WITH_ROOM, FULL_UP}) {
            for (String call : LINES.keySet()) {
                refusalsOf(w, call);
            }
        }
        everyClauseIsMet();
        due.finish();
    }

    private static void refusalsOf(World w, String call) throws Exception {
        Line line = LINES.get(call);
        List<Long> asItWas = portrait(objectOf(w));
        // Of the calls of an object: some 70 to make it, some 130 for the portrait, and three each.
        int most = (CALLS_OF_AN_OBJECT - 230) / 3;
        List<int[]> refused = refusedOf(w, line);
        for (int from = 0; from < refused.size(); from += most) {
            TaleBans x = objectOf(w);
            for (int[] a : refused.subList(from, Math.min(refused.size(), from + most))) {
                refuse(x, w, call, a);
            }
            due.is("on " + w.name + " no refused " + call + " changes anything", portrait(x).equals(asItWas) ? 1 : 0, 1);
        }
    }

    private static void refuse(TaleBans x, World w, String call, int[] a) throws Exception {
        Line line = LINES.get(call);
        Clause clause = firstOf(w, line, a);
        x.sheet(0, 0, -1);
        long answer = answerOf(x, call, a);
        boolean isLong = call.equals("odds") || call.equals("cell");
        String row = "on " + w.name + " " + call + Arrays.toString(a);
        due.is(row, answer, isLong ? LOST : clause.answer);
        due.is("fault() behind " + row, x.fault(), line.namesFaults ? clause.fault : 4);
    }

    /** All rows of arguments that are refused and differ from those that are taken in two places at most. */
    private static List<int[]> refusedOf(World w, Line line) {
        List<int[]> rows = new ArrayList<>();
        int[] taken = line.taken;
        if (taken.length < 2) {
            for (int number : taken.length == 0 ? new int[1] : NUMBERS) {
                int[] a = taken.clone();
                Arrays.fill(a, number);
                rows.add(a);
            }
        }
        for (int one = 0; one < taken.length; one++) {
            for (int other = one + 1; other < taken.length; other++) {
                for (int v : NUMBERS) {
                    for (int u : NUMBERS) {
                        int[] a = taken.clone();
                        a[one] = v;
                        a[other] = u;
                        rows.add(a);
                    }
                }
            }
        }
        rows.removeIf(a -> firstOf(w, line, a) == null);
        return rows;
    }

    private static Clause firstOf(World w, Line line, int[] a) {
        for (Clause clause : line.clauses) {
            if (clause.when.is(w, a)) {
                return clause;
            }
        }
        return null;
    }

    private static long answerOf(TaleBans x, String call, int[] a) throws Exception {
        for (Method method : TaleBans.class.getMethods()) {
            if (method.getName().equals(call)) {
                Object[] arguments = new Object[a.length];
                for (int k = 0; k < a.length; k++) {
                    boolean isFlag = method.getParameterTypes()[k] == boolean.class;
                    arguments[k] = isFlag ? (Object) (a[k] % 2 != 0) : (Object) a[k];
                }
                return ((Number) method.invoke(x, arguments)).longValue();
            }
        }
        throw new IllegalArgumentException(call);
    }

    /** So that no row of the table is there for nothing: each clause is the first one of some call made. */
    private static void everyClauseIsMet() {
        for (Map.Entry<String, Line> entry : LINES.entrySet()) {
            List<Clause> met = new ArrayList<>();
            for (World w : new World[] {NONE_THERE, WITH_ROOM, FULL_UP}) {
                for (int[] a : refusedOf(w, entry.getValue())) {
                    met.add(firstOf(w, entry.getValue(), a));
                }
            }
            for (Clause clause : entry.getValue().clauses) {
                due.is(entry.getKey() + " is refused by " + clause.answer, met.contains(clause) ? 1 : 0, 1);
            }
        }
    }
}
