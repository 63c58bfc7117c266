/** What the tests share: each answer is compared with the one that is due, and the misses are counted. */
final class Checks {
    static final int INITIAL = 1;
    static final int COMMON = 2;
    static final int RECURSIVE = 4;
    static final int GLOBAL = 8;

    private static int wrong = 0;

    private Checks() {
    }

    static void due(String what, long got, long want) {
        if (got != want) {
            wrong++;
            System.out.println(what + " answered " + got + ", due is " + want);
        }
    }

    static void dueValue(String what, CallRows x, int cell, long want) {
        try {
            due(what, x.get(cell), want);
        } catch (IllegalArgumentException e) {
            wrong++;
            System.out.println(what + ": get(" + cell + ") threw, due is " + want);
        }
    }

    static void dueThrow(String what, CallRows x, int cell) {
        try {
            long got = x.get(cell);
            wrong++;
            System.out.println(what + ": get(" + cell + ") answered " + got + ", due is a throw");
        } catch (IllegalArgumentException e) {
            // A class below it would not be what the document names.
            due(what + ": the exception's class", e.getClass() == IllegalArgumentException.class ? 1 : 0, 1);
        }
    }

    /** The running program calls a name without arguments and the called one is entered. */
    static void goInto(CallRows x, int name, int program) {
        due("call of name " + name, x.call(x.count(3), name), program);
        due("enter of program " + program, x.enter(), 1);
    }

    static void end() {
        if (wrong != 0) {
            System.out.println(wrong + " answers are not as due");
            System.exit(1);
        }
    }
}
