import java.util.Random;

/** No call throws by itself, for any arguments and in any state, also far beyond the 512th call. */
public final class AnyUseTest {
    private static final int[] ODD = {Integer.MIN_VALUE, -201, -101, -61, -18, -17, -16, -3, -2, -1, 0, 1, 2,
        3, 7, 8, 15, 16, 17, 59, 60, 61, 99, 100, 199, 200, 201, 65536, Integer.MAX_VALUE};

    public static void main(String[] args) {
        oddArgumentsOnNewObjects();
        deeperThanPromised();
        longRuns();
        Checks.end();
    }

    private static void oddArgumentsOnNewObjects() {
        for (int a : ODD) {
            for (int b : ODD) {
                for (int kind = 0; kind < 14; kind++) {
                    CallRows x = new CallRows(a);
                    guarded(x, kind, a, b, a);
                    x.program(0, 1, 4);
                    x.formal(1, 2, 3);
                    x.call(0, 1);
                    guarded(x, kind, a, b, a);
                    x.enter();
                    guarded(x, kind, a, b, a);
                }
            }
        }
    }

    private static void deeperThanPromised() {
        CallRows x = new CallRows(65536);
        x.program(0, 1, Checks.RECURSIVE);
        for (int i = 0; i < 200; i++) {
            x.cell(1, i);
        }
        for (int i = 0; i < 70000; i++) {
            guarded(x, 3, x.count(3), 1, 0);
            guarded(x, 5, 0, 0, 0);
        }
        int deep = x.count(2);
        for (int i = 0; i < deep; i++) {
            guarded(x, 7, 0, 0, 0);
        }
        Checks.due("all are left", x.count(2), 0);
    }

    private static void longRuns() {
        for (int seed = 0; seed < 30; seed++) {
            Random random = new Random(seed);
            CallRows x = new CallRows(65536);
            for (int i = 0; i < 20000; i++) {
                int kind = random.nextInt(14);
                int a = kind == 3 && random.nextInt(8) > 0 ? x.count(3) : odd(random);
                guarded(x, kind, a, odd(random), odd(random));
            }
        }
    }

    private static int odd(Random random) {
        return random.nextInt(4) == 0 ? ODD[random.nextInt(ODD.length)] : random.nextInt(10) - 3;
    }

    private static void guarded(CallRows x, int kind, int a, int b, int c) {
        try {
            made(x, kind, a, b, c);
        } catch (RuntimeException e) {
            boolean due = kind == 8 && e.getClass() == IllegalArgumentException.class;
            Checks.due("call " + kind + " with " + a + ", " + b + ", " + c + " threw " + e, due ? 0 : 1, 0);
        }
    }

    private static void made(CallRows x, int kind, int a, int b, int c) {
        switch (kind) {
            case 0: x.program(a, b, c); break;
            case 1: x.cell(a, b); break;
            case 2: x.formal(a, b, c); break;
            case 3: x.call(a, b); break;
            case 4: x.actual(a, b); break;
            case 5: x.enter(); break;
            case 6: x.set(a, b); break;
            case 7: x.leave(b); break;
            case 8: x.get(a); break;
            case 9: x.cancel(a, b); break;
            case 10: x.shared(a); break;
            case 11: x.state(a); break;
            case 12: x.returned(); break;
            default: x.count(a); break;
        }
    }
}
