import java.lang.reflect.Method;
import java.util.ArrayList;
import java.util.Arrays;
import java.util.List;
import java.util.Map;
import java.util.Random;
import java.util.TreeMap;

/** All promises: runs of calls, by seeds that are always the same, whose answers the Model gives, too. */
public final class ModelTest {
    private static final int RUNS = 300, CALLS = 512;

    /** Of each call: how often it is made among the others, and how many numbers each argument may be. */
    private static final Map<String, int[]> CALLS_MADE = new TreeMap<>();

    static {
        CALLS_MADE.put("steppe", new int[] {2, 4, 3, 4, 26});
        CALLS_MADE.put("ofPerson", new int[] {3, 6, 5});
        CALLS_MADE.put("tale", new int[] {10, 6, 6, 40});
        CALLS_MADE.put("undo", new int[] {2, 3});
        CALLS_MADE.put("move", new int[] {8, 6, 3, 40});
        CALLS_MADE.put("unmove", new int[] {2, 4});
        CALLS_MADE.put("law", new int[] {4, 3});
        CALLS_MADE.put("pay", new int[] {6, 6, 2});
        CALLS_MADE.put("parody", new int[] {4, 6, 2});
        CALLS_MADE.put("remembers", new int[] {6, 6, 40});
        CALLS_MADE.put("hearth", new int[] {4, 6, 40});
        CALLS_MADE.put("told", new int[] {6, 3, 40});
        CALLS_MADE.put("forbidden", new int[] {6, 40});
        CALLS_MADE.put("dies", new int[] {4, 6});
        CALLS_MADE.put("free", new int[] {4, 6, 40});
        CALLS_MADE.put("fewest", new int[] {2, 6, 40});
        CALLS_MADE.put("longest", new int[] {3, 40, 2});
        CALLS_MADE.put("need", new int[] {4, 6, 6});
        CALLS_MADE.put("clash", new int[] {4, 2});
        CALLS_MADE.put("plan", new int[] {6, 40, 4, 3, 10, 8});
        CALLS_MADE.put("reading", new int[] {6, 6, 6, 40, 2});
        CALLS_MADE.put("back", new int[] {3, 5});
        CALLS_MADE.put("comes", new int[] {4, 6});
        CALLS_MADE.put("paid", new int[] {4});
        CALLS_MADE.put("laws", new int[] {4});
        CALLS_MADE.put("odds", new int[] {2, 6, 40, 2});
        CALLS_MADE.put("sheet", new int[] {4, 4, 3, 30});
        CALLS_MADE.put("lose", new int[] {1, 4});
        CALLS_MADE.put("put", new int[] {6, 4, 30, 6});
        CALLS_MADE.put("cell", new int[] {6, 4, 20, 3});
        CALLS_MADE.put("copy", new int[] {6, 4, 10, 4, 10, 10});
        CALLS_MADE.put("tell", new int[] {2, 6});
        CALLS_MADE.put("greet", new int[] {2, 6});
        CALLS_MADE.put("as", new int[] {3, 6, 3});
        CALLS_MADE.put("trace", new int[] {3});
        CALLS_MADE.put("fault", new int[] {6});
        CALLS_MADE.put("many", new int[] {6, 6});
    }

    private static final Map<String, Method> OF_CLASS = callsOf(TaleBans.class), OF_MODEL = callsOf(Model.class);

    private final TaleBans x = new TaleBans();
    private final Model model = new Model();
    private final Random random;
    private final List<String> told = new ArrayList<>();
    private boolean asDue = true;

    private ModelTest(long seed) {
        random = new Random(seed);
    }

    public static void main(String[] args) throws Exception {
        List<String> deck = new ArrayList<>();
        CALLS_MADE.forEach((name, numbers) -> {
            for (int k = 0; k < numbers[0]; k++) {
                deck.add(name);
            }
        });
        for (long seed = 1; seed <= RUNS; seed++) {
            ModelTest run = new ModelTest(seed);
            run.go(deck);
            if (!run.asDue) {
                System.out.println("seed " + seed + ":\n  " + String.join("\n  ", run.told));
                System.exit(1);
            }
        }
        System.out.println(RUNS + " runs of " + CALLS + " calls are as in the Model");
    }

    private void go(List<String> deck) throws Exception {
        if (random.nextInt(8) != 0) {
            settle();
        }
        while (asDue && told.size() < CALLS) {
            int what = random.nextInt(100);
            if (what == 0) {
                settle();
            } else if (what < 3) {
                tellOfIt();
            } else if (what < 5) {
                writePlan();
            } else {
                String name = deck.get(random.nextInt(deck.size()));
                call(name, arguments(CALLS_MADE.get(name)));
            }
        }
    }

    private int[] arguments(int[] numbers) {
        int[] arguments = new int[numbers.length - 1];
        for (int k = 0; k < arguments.length; k++) {
            int many = numbers[k + 1];
            boolean odd = random.nextInt(24) == 0;
            arguments[k] = odd ? odd(many) : random.nextInt(many);
        }
        return arguments;
    }

    private int odd(int many) {
        int[] odd = {-1, many, many + 1, -2, 60, 61, 40, Integer.MAX_VALUE, Integer.MIN_VALUE, 70001, -40000};
        return odd[random.nextInt(odd.length)];
    }

    /** Writes a TEXT, at times one with a fault, and settles it. */
    private void settle() throws Exception {
        StringBuilder text = new StringBuilder("s");
        int persons = 2 + random.nextInt(5);
        for (int p = 0; p < persons; p++) {
            text.append(';').append("hbg".charAt(random.nextInt(3)));
            text.append(1 + random.nextInt(5)).append(random.nextInt(3));
        }
        if (random.nextInt(6) == 0) {
            text.setCharAt(random.nextInt(text.length()), "s;hbg0123456 "
                .charAt(random.nextInt(13)));
        }
        int sheet = random.nextInt(4);
        int lane = random.nextInt(3);
        call("sheet", sheet, lane, text.length() + random.nextInt(3));
        for (int i = 0; i < text.length(); i++) {
            call("put", sheet, i, text.charAt(i));
        }
        call("steppe", sheet, lane, 0, random.nextInt(10) == 0 ? random.nextInt(30) : text.length());
    }

    /** Tales, moves, who is paid, and readings most of which are so: what random calls seldom come to. */
    private void tellOfIt() throws Exception {
        int persons = Math.max(1, model.many(0));
        call("undo", random.nextInt(1 + model.many(1)));
        for (int k = random.nextInt(6); k >= 0; k--) {
            call("tale", random.nextInt(6), random.nextInt(persons), random.nextInt(random.nextInt(4) == 0 ? 40 : 12));
            call("move", random.nextInt(persons), random.nextInt(3), random.nextInt(20));
            call("pay", random.nextInt(persons), random.nextInt(2));
        }
        for (int k = random.nextInt(5); k > 0 && model.many(1) > 0; k--) {
            int p = random.nextInt(persons);
            int t = random.nextInt(model.many(1));
            int season = random.nextInt(random.nextInt(4) == 0 ? 40 : 20);
            int did = model.remembers(p, season) >> t & 1;
            call("reading", p, t, season, random.nextInt(8) == 0 ? 1 - did : did);
        }
        call("comes", random.nextInt(6));
        call("paid");
        call("laws");
        for (int deed = 0; deed < 6; deed++) {
            call("fewest", deed, random.nextInt(16));
        }
    }

    private void writePlan() throws Exception {
        int sheet = random.nextInt(4);
        int lane = random.nextInt(3);
        int n = 1 + random.nextInt(8);
        call("sheet", sheet, lane, n);
        for (int i = 0; i < n; i++) {
            call("put", sheet, i, random.nextInt(random.nextInt(6) == 0 ? 7 : 6));
        }
        for (int season = 0; season < 12; season += 1 + random.nextInt(4)) {
            call("plan", season, sheet, lane, 0, n);
        }
    }

    private void call(String name, int... numbers) throws Exception {
        // What an object answers later is free.
        if (told.size() == CALLS) {
            return;
        }
        Method called = OF_CLASS.get(name);
        Object[] arguments = new Object[numbers.length];
        for (int k = 0; k < numbers.length; k++) {
            boolean isFlag = called.getParameterTypes()[k] == boolean.class;
            if (isFlag) {
                arguments[k] = (numbers[k] & 1) == 1;
            } else {
                arguments[k] = numbers[k];
            }
        }
        long got = ((Number) called.invoke(x, arguments)).longValue();
        long want = ((Number) OF_MODEL.get(name).invoke(model, arguments)).longValue();
        String row = name + Arrays.toString(arguments) + " answered " + got;
        told.add(got == want ? row : row + ", the Model " + want);
        asDue &= got == want;
    }

    private static Map<String, Method> callsOf(Class<?> where) {
        Map<String, Method> calls = new TreeMap<>();
        for (Method method : where.getDeclaredMethods()) {
            if (CALLS_MADE.containsKey(method.getName())) {
                calls.put(method.getName(), method);
            }
        }
        return calls;
    }
}
