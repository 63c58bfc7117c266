import java.util.Random;
import java.util.TreeMap;

/** Long mixed runs, the same ones each time: every answer is compared with the model's. */
public final class ModelTest {
    private static final int RUNS = 3000;
    private static final int CALLS = 512;
    private static final String[] CALL_NAMES = {"program", "cell", "formal", "call", "actual", "enter",
        "set", "leave", "get", "cancel", "shared", "state", "returned", "count"};

    // How often each call is made while a run declares, in one of these ways, and after that.
    private static final int[][] DECLARING = {
        {30, 30, 20, 3, 1, 1, 1, 3, 1, 1, 4, 1, 1, 1},
        {3, 90, 1, 0, 0, 0, 0, 0, 0, 0, 9, 0, 0, 0},
        {40, 9, 1, 0, 0, 0, 0, 0, 0, 0, 1, 0, 0, 0},
        {4, 5, 40, 0, 0, 0, 0, 0, 0, 0, 3, 0, 0, 0},
    };
    private static final int[] USING = {1, 1, 1, 30, 4, 4, 24, 14, 24, 5, 2, 4, 2, 6};

    private static final int CALL = 3;
    private static final int ACTUAL = 4;
    private static final int ENTER = 5;

    private final Random random;
    private final int names;
    private final int way;
    private final int declarations;
    // How many arguments more or less than formals are told, where the run goes wrong at times.
    private final int slip;
    private final CallRows x;
    private final Model model;

    // How often each call gave each answer, to see that the runs reach what they should.
    private static final TreeMap<String, Integer> SEEN = new TreeMap<>();

    private ModelTest(long seed) {
        random = new Random(seed);
        names = 1 + random.nextInt(8);
        way = random.nextInt(8) > 0 ? 0 : 1 + random.nextInt(DECLARING.length - 1);
        declarations = way == 0 ? 20 + random.nextInt(60) : 100 + random.nextInt(200);
        slip = random.nextInt(4) == 0 ? 20 : 1;
        int depth = random.nextInt(3) == 0 ? random.nextInt(6) : 65536;
        x = new CallRows(depth);
        model = new Model(depth);
    }

    public static void main(String[] args) {
        for (int seed = 0; seed < RUNS; seed++) {
            new ModelTest(seed).run(seed);
        }
        String[] reached = {"program -1", "program -2", "program -3", "program -4", "cell -1", "cell -2",
            "cell -4", "formal -1", "formal -2", "formal -4", "call -2", "call -3", "call -5", "call -6",
            "actual -1", "actual -2", "actual -4", "enter 1", "enter -4", "enter -7", "enter -8", "set 1",
            "set -2", "leave 0", "leave -4", "get throws", "cancel 0", "cancel 2", "cancel -2",
            "cancel -3", "cancel -5", "shared -1", "shared -2", "state 0", "state 1", "state 2",
            "state -1", "count -1"};
        for (String one : reached) {
            Checks.due("the runs reach '" + one + "'", SEEN.containsKey(one) ? 1 : 0, 1);
        }
        if (args.length > 0) {
            System.out.println(SEEN);
        }
        Checks.end();
    }

    private void run(int seed) {
        for (int i = 0; i < CALLS; i++) {
            int kind = i < declarations ? pick(DECLARING[way]) : next();
            int a = first(kind);
            int b = second(kind);
            int c = kind == 2 ? number(1, 8) : number(0, 15);
            long v = value();
            long got = answer(kind, a, b, c, v);
            long want = modelAnswer(kind, a, b, c, v);
            note(kind, want);
            if (got != want) {
                Checks.due("seed " + seed + ", call " + i + ": " + CALL_NAMES[kind] + " with "
                    + a + ", " + b + ", " + c + ", " + v, got, want);
                return;
            }
        }
    }

    private static void note(int kind, long want) {
        boolean small = want >= -9 && want <= 2;
        String answer = want == Model.THROWS ? "throws" : small ? Long.toString(want) : "more";
        SEEN.merge(CALL_NAMES[kind] + " " + answer, 1, Integer::sum);
    }

    /** Where a call is prepared, mostly its arguments follow, and then it is entered. */
    private int next() {
        if (model.count(4) == 0 || random.nextInt(5) == 0) {
            return pick(USING);
        }
        int told = model.formalsOfPrepared();
        if (random.nextInt(30) == 0) {
            told += random.nextInt(slip + 1) - 1;
        }
        return model.count(5) < told ? ACTUAL : ENTER;
    }

    private int pick(int[] weights) {
        int sum = 0;
        for (int w : weights) {
            sum += w;
        }
        int at = random.nextInt(sum);
        int kind = 0;
        while (at >= weights[kind]) {
            at -= weights[kind];
            kind++;
        }
        return kind;
    }

    /** Mostly a number of the range, at times one just outside of it or far off. */
    private int number(int low, int high) {
        switch (random.nextInt(60)) {
            case 0:
                return low - 1;
            case 1:
                return high + 1;
            case 2:
                return random.nextInt();
            default:
                return low + random.nextInt(high - low + 1);
        }
    }

    private int first(int kind) {
        switch (kind) {
            case 0:
                return number(0, Math.max(0, Math.min(model.count(0), 12)));
            case 1:
            case 2:
            case 11:
                return number(1, Math.max(1, Math.min(model.count(0), 12)));
            case 3:
            case 9:
                return random.nextInt(20) == 0 ? number(0, 4) : model.count(3);
            case 10:
                return random.nextInt(3) == 0 ? number(0, 99) : number(0, 3);
            case 13:
                return number(0, 6);
            default:
                return cellOrFormal();
        }
    }

    private int cellOrFormal() {
        int chosen = number(-4, Math.max(0, model.count(1)));
        for (int i = 0; i < 12 && !model.sees(chosen) && random.nextInt(12) > 0; i++) {
            chosen = number(-4, Math.max(0, model.count(1)));
        }
        return chosen;
    }

    private int callableName() {
        int chosen = number(0, names);
        for (int i = 0; i < 8 && !model.callable(chosen) && random.nextInt(12) > 0; i++) {
            chosen = number(0, names);
        }
        return chosen;
    }

    private int second(int kind) {
        switch (kind) {
            case 0:
                return way == 2 ? number(0, 99) : number(0, names);
            case 2:
                return random.nextInt(2) == 0 ? number(0, 3) : number(2, 3);
            case CALL:
                return callableName();
            case 9:
                return number(0, names);
            default:
                return number(0, 2);
        }
    }

    private long value() {
        long v = random.nextLong();
        return random.nextBoolean() ? v : v >> random.nextInt(64);
    }

    private long answer(int kind, int a, int b, int c, long v) {
        switch (kind) {
            case 0: return x.program(a, b, c);
            case 1: return x.cell(a, v);
            case 2: return x.formal(a, b, c);
            case 3: return x.call(a, b);
            case 4: return x.actual(a, b);
            case 5: return x.enter();
            case 6: return x.set(a, v);
            case 7: return x.leave(v);
            case 8:
                try {
                    return x.get(a);
                } catch (IllegalArgumentException e) {
                    return Model.THROWS;
                }
            case 9: return x.cancel(a, b);
            case 10: return x.shared(a);
            case 11: return x.state(a);
            case 12: return x.returned();
            default: return x.count(a);
        }
    }

    private long modelAnswer(int kind, int a, int b, int c, long v) {
        switch (kind) {
            case 0: return model.program(a, b, c);
            case 1: return model.cell(a, v);
            case 2: return model.formal(a, b, c);
            case 3: return model.call(a, b);
            case 4: return model.actual(a, b);
            case 5: return model.enter();
            case 6: return model.set(a, v);
            case 7: return model.leave(v);
            case 8: return model.get(a);
            case 9: return model.cancel(a, b);
            case 10: return model.shared(a);
            case 11: return model.state(a);
            case 12: return model.returned();
            default: return model.count(a);
        }
    }
}
