/** What the tests share: each answer is compared with the one that is due, and the misses are counted. */
final class Checks {
    static final int NONE = -1;

    static final int INITIAL = 1;
    static final int COMMON = 2;
    static final int RECURSIVE = 4;
    static final int GLOBAL = 8;

    static final int MIN = Integer.MIN_VALUE;
    static final int MAX = Integer.MAX_VALUE;

    private static int wrong = 0;
    private static String about = "";

    private Checks() {
    }

    /** What is written before each miss from now on. */
    static void about(String text) {
        about = text;
    }

    static void miss(String what) {
        wrong++;
        System.out.println(about + what);
    }

    static void due(String what, long got, long want) {
        if (got != want) {
            miss(what + " answered " + got + ", due is " + want);
        }
    }

    static void dueValue(String what, CallRows x, int cell, long want) {
        try {
            due(what + ": get(" + cell + ")", x.get(cell), want);
        } catch (IllegalArgumentException e) {
            miss(what + ": get(" + cell + ") threw, due is " + want);
        }
    }

    static void dueThrow(String what, CallRows x, int cell) {
        try {
            miss(what + ": get(" + cell + ") answered " + x.get(cell) + ", due is a throw");
        } catch (IllegalArgumentException e) {
            // A class below it would not be what the document names.
            due(what + ": the exception's class", e.getClass() == IllegalArgumentException.class ? 1 : 0, 1);
        }
    }

    /** The running program calls a name without arguments and the called one is entered. */
    static void goInto(CallRows x, int name, int program) {
        due("call of name " + name, x.call(x.count(3), name), program);
        due("enter of program " + program, x.enter(), 1);
    }

    /** The same with one argument. */
    static void goIntoWith(CallRows x, int name, int program, int cell, int how) {
        due("call of name " + name, x.call(x.count(3), name), program);
        due("the argument of program " + program, x.actual(cell, how), 0);
        due("enter of program " + program, x.enter(), 1);
    }

    /** All that can be asked of an object, so that a refused call can be seen to change nothing. */
    static String seen(CallRows x) {
        StringBuilder all = new StringBuilder();
        for (int what = 0; what <= 6; what++) {
            all.append(x.count(what)).append(' ');
        }
        all.append(x.returned());
        int programs = x.count(0);
        for (int p = 1; p <= programs; p++) {
            all.append(" s").append(x.state(p));
        }
        int cells = x.count(1);
        for (int cell = -1 - x.count(6); cell <= cells; cell++) {
            all.append(' ').append(valueOrNot(x, cell));
        }
        return all.toString();
    }

    private static String valueOrNot(CallRows x, int cell) {
        try {
            return Long.toString(x.get(cell));
        } catch (IllegalArgumentException e) {
            return "not";
        }
    }

    static void dueSame(String what, CallRows x, String before) {
        String after = seen(x);
        if (!after.equals(before)) {
            miss(what + " changed what is seen from " + before + " to " + after);
        }
    }

    static void end() {
        if (wrong != 0) {
            System.out.println(wrong + " answers are not as due");
            System.exit(1);
        }
    }
}
