/** Promises 8, 9, 10, 13 and 14: values, programs that are left, their state, and what they return. */
public final class DataTest {
    public static void main(String[] args) {
        Sentences.run(DataTest.class);
    }

    /**
     * Programs 1 and 2 with the cells 0 and 1, the first values 5 and 6, and one optional formal each;
     * cell 2 is external.
     */
    private static CallRows withTwoPrograms() {
        CallRows x = new CallRows(9);
        x.program(0, 1, 0);
        x.program(0, 2, 0);
        x.cell(1, 5);
        x.cell(2, 6);
        x.shared(0);
        x.formal(1, 2, 8);
        x.formal(2, 3, 4);
        return x;
    }

    @Sentence(in = "Promise 8", says = "A visible cell or formal gets a value: 1")
    private static void setOfWhatIsVisible() {
        CallRows x = withTwoPrograms();
        Checks.due("an external cell, none runs", x.set(2, 1), 1);
        Checks.dueValue("an external cell, none runs", x, 2, 1);
        Checks.goIntoWith(x, 1, 1, 2, 1);
        long[] values = {Long.MIN_VALUE, Long.MAX_VALUE, -1, 0, 1L << 32};
        int[] cells = {0, 2, -1};
        for (long v : values) {
            for (int cell : cells) {
                Checks.due("set(" + cell + ", " + v + ")", x.set(cell, v), 1);
                Checks.dueValue("set(" + cell + ", " + v + ")", x, cell, v);
            }
        }
    }

    @Sentence(in = "Promise 8", says = "A visible cell or formal gets a value: 1")
    private static void setOfOneLeavesTheOthers() {
        CallRows x = withTwoPrograms();
        Checks.goIntoWith(x, 1, 1, 2, 1);
        x.set(0, 10);
        x.set(2, 20);
        x.set(-1, 30);
        Checks.dueValue("its cell", x, 0, 10);
        Checks.dueValue("the external cell", x, 2, 20);
        Checks.dueValue("its formal", x, -1, 30);
        Checks.goInto(x, 2, 2);
        Checks.dueValue("another's cell", x, 1, 6);
    }

    @Sentence(in = "Promise 8", says = "-2 when it is not visible")
    private static void setOfWhatIsNotVisible() {
        CallRows x = withTwoPrograms();
        int[] noneRuns = {0, 1, 3, 200, -1, -2, -17, Checks.MIN, Checks.MAX};
        String before = Checks.seen(x);
        for (int cell : noneRuns) {
            Checks.due("none runs, set(" + cell + ")", x.set(cell, 99), -2);
        }
        Checks.dueSame("set() of what is not visible", x, before);
        Checks.goInto(x, 1, 1);
        int[] oneRuns = {1, 3, 200, -1, -2, -17, Checks.MIN, Checks.MAX};
        before = Checks.seen(x);
        for (int cell : oneRuns) {
            Checks.due("1 runs, set(" + cell + ")", x.set(cell, 99), -2);
        }
        Checks.dueSame("set() of what is not visible", x, before);
        Checks.goInto(x, 2, 2);
        Checks.dueValue("the other's cell was not set", x, 1, 6);
        Checks.due("the caller's cell", x.set(0, 99), -2);
        x.leave(0);
        Checks.dueValue("the caller's cell was not set", x, 0, 5);
    }

    @Sentence(in = "Promise 9", says = "The running program is left, with what it returns")
    private static void leaveReturns() {
        CallRows x = withTwoPrograms();
        Checks.goInto(x, 1, 1);
        Checks.goInto(x, 2, 2);
        x.leave(7);
        Checks.due("what is returned", x.returned(), 7);
        Checks.due("it is not active", x.state(2), 1);
        Checks.due("the other is active", x.state(1), 2);
        Checks.due("how many are active", x.count(2), 1);
    }

    @Sentence(in = "Promise 9", says = "the one that runs then, 0 for none")
    private static void leaveAnswersTheOneThatRunsThen() {
        CallRows x = withTwoPrograms();
        x.program(0, 3, Checks.RECURSIVE);
        Checks.goInto(x, 2, 2);
        Checks.goInto(x, 3, 3);
        Checks.goInto(x, 1, 1);
        Checks.goInto(x, 3, 3);
        Checks.goInto(x, 3, 3);
        int[] then = {3, 1, 3, 2, 0};
        for (int program : then) {
            Checks.due("leave", x.leave(0), program);
            Checks.due("the running one", x.count(3), program);
        }
    }

    @Sentence(in = "Promise 9", says = "-4 when none is running")
    private static void leaveWhenNoneIsRunning() {
        CallRows x = withTwoPrograms();
        String before = Checks.seen(x);
        Checks.due("none was entered", x.leave(9), -4);
        Checks.dueSame("leave() of none", x, before);
        x.call(0, 1);
        x.actual(0, 2);
        before = Checks.seen(x);
        Checks.due("one is prepared", x.leave(9), -4);
        Checks.dueSame("leave() of none", x, before);
        Checks.due("it is entered", x.enter(), 1);
        x.leave(2);
        Checks.due("it was left", x.leave(9), -4);
        Checks.due("what was returned stays", x.returned(), 2);
    }

    @Sentence(in = "Promise 9", says = "else what was prepared is not any more")
    private static void leaveLeavesNothingPrepared() {
        CallRows x = withTwoPrograms();
        Checks.goInto(x, 1, 1);
        x.call(1, 2);
        x.actual(0, 0);
        Checks.due("leave", x.leave(0), 0);
        Checks.due("the prepared one", x.count(4), 0);
        Checks.due("its arguments", x.count(5), 0);
        Checks.due("actual()", x.actual(2, 0), -4);
        Checks.due("enter()", x.enter(), -4);
        Checks.due("it was not entered", x.state(2), 0);
    }

    @Sentence(in = "Promise 10", says = "The value of a visible cell or formal.")
    private static void getOfWhatIsVisible() {
        CallRows x = withTwoPrograms();
        x.set(2, Long.MIN_VALUE);
        Checks.dueValue("an external cell, none runs", x, 2, Long.MIN_VALUE);
        Checks.goIntoWith(x, 1, 1, 2, 0);
        Checks.dueValue("its cell", x, 0, 5);
        Checks.dueValue("an external cell", x, 2, Long.MIN_VALUE);
        Checks.dueValue("its formal", x, -1, Long.MIN_VALUE);
        x.set(0, Long.MAX_VALUE);
        Checks.dueValue("what was set", x, 0, Long.MAX_VALUE);
        Checks.dueValue("and again", x, 0, Long.MAX_VALUE);
    }

    @Sentence(in = "Promise 10", says = "IllegalArgumentException when it is not visible.")
    private static void getOfWhatIsNotVisible() {
        CallRows x = withTwoPrograms();
        int[] noneRuns = {0, 1, 3, 200, -1, -2, -16, -17, -201, Checks.MIN, Checks.MAX};
        for (int cell : noneRuns) {
            Checks.dueThrow("none runs", x, cell);
        }
        x.call(0, 1);
        x.actual(2, 0);
        for (int cell : noneRuns) {
            Checks.dueThrow("one is prepared", x, cell);
        }
        x.enter();
        int[] oneRuns = {1, 3, 200, -2, -16, -17, -201, Checks.MIN, Checks.MAX};
        for (int cell : oneRuns) {
            Checks.dueThrow("1 runs", x, cell);
        }
        Checks.goInto(x, 2, 2);
        Checks.dueThrow("the caller's cell", x, 0);
        Checks.dueThrow("omitted", x, -1);
        x.leave(0);
        x.leave(0);
        for (int cell : noneRuns) {
            Checks.dueThrow("left", x, cell);
        }
        Checks.dueValue("a throw changes nothing", x, 2, 0);
    }

    @Sentence(in = "Promise 13", says = "0 fresh")
    private static void stateFresh() {
        CallRows x = withTwoPrograms();
        Checks.due("at first", x.state(1), 0);
        x.call(0, 1);
        Checks.due("prepared", x.state(1), 0);
        x.enter();
        x.leave(0);
        x.cancel(0, 1);
        Checks.due("cancelled", x.state(1), 0);
        Checks.due("never entered", x.state(2), 0);
    }

    @Sentence(in = "Promise 13", says = "1 it has data (was entered, and is neither active nor fresh since")
    private static void stateHasData() {
        CallRows x = new CallRows(9);
        int[] marks = {0, Checks.COMMON, Checks.GLOBAL, Checks.COMMON + Checks.GLOBAL};
        for (int i = 0; i < marks.length; i++) {
            x.program(0, i, marks[i]);
            Checks.goInto(x, i, i + 1);
            Checks.due("entered, marks " + marks[i], x.state(i + 1), 2);
            x.leave(0);
            Checks.due("left, marks " + marks[i] + ", without cells", x.state(i + 1), 1);
            x.call(0, i);
            Checks.due("prepared, marks " + marks[i], x.state(i + 1), 1);
        }
        Checks.due("cancelled", x.cancel(0, 0), 1);
        Checks.due("fresh since", x.state(1), 0);
        Checks.goInto(x, 0, 1);
        x.leave(0);
        Checks.due("entered since", x.state(1), 1);
    }

    @Sentence(in = "Promise 13", says = "initial and recursive ones never)")
    private static void stateOfInitialAndRecursiveOnes() {
        for (int marks = 0; marks <= 15; marks++) {
            CallRows x = new CallRows(9);
            x.program(0, 1, marks);
            x.cell(1, 5);
            for (int i = 0; i < 2; i++) {
                Checks.goInto(x, 1, 1);
                x.set(0, 6);
                x.leave(0);
                boolean never = (marks & (Checks.INITIAL + Checks.RECURSIVE)) != 0;
                Checks.due("left, marks " + marks, x.state(1), never ? 0 : 1);
            }
        }
    }

    @Sentence(in = "Promise 13", says = "2 active")
    private static void stateActive() {
        CallRows x = withTwoPrograms();
        x.program(0, 3, Checks.RECURSIVE);
        x.program(0, 4, Checks.INITIAL);
        Checks.goInto(x, 1, 1);
        Checks.due("running", x.state(1), 2);
        Checks.goInto(x, 3, 3);
        Checks.goInto(x, 3, 3);
        Checks.goInto(x, 4, 4);
        Checks.due("active, not running", x.state(1), 2);
        Checks.due("an initial one", x.state(4), 2);
        x.leave(0);
        Checks.due("active twice", x.state(3), 2);
        x.leave(0);
        Checks.due("active once still", x.state(3), 2);
        x.leave(0);
        Checks.due("not active any more", x.state(3), 0);
        Checks.due("the first is", x.state(1), 2);
    }

    @Sentence(in = "Promise 13", says = "NONE when there is no such program")
    private static void stateOfNoProgram() {
        CallRows x = withTwoPrograms();
        int[] noProgram = {0, 3, -1, 60, 61, Checks.MIN, Checks.MAX};
        for (int program : noProgram) {
            Checks.due("state(" + program + ")", x.state(program), Checks.NONE);
        }
        Checks.goInto(x, 1, 1);
        for (int program : noProgram) {
            Checks.due("1 runs, state(" + program + ")", x.state(program), Checks.NONE);
        }
        Checks.due("the last", x.state(2), 0);
    }

    @Sentence(in = "Promise 14", says = "What was returned latest")
    private static void returnedIsTheLatest() {
        CallRows x = withTwoPrograms();
        Checks.goInto(x, 1, 1);
        Checks.goInto(x, 2, 2);
        x.leave(Long.MIN_VALUE);
        Checks.due("the least", x.returned(), Long.MIN_VALUE);
        Checks.goInto(x, 2, 2);
        Checks.due("entering does not change it", x.returned(), Long.MIN_VALUE);
        x.leave(-1);
        Checks.due("the latest", x.returned(), -1);
        x.leave(Long.MAX_VALUE);
        Checks.due("the greatest", x.returned(), Long.MAX_VALUE);
        x.leave(9);
        Checks.due("a refused leave returns nothing", x.returned(), Long.MAX_VALUE);
        x.cancel(0, 1);
        Checks.due("cancel does not change it", x.returned(), Long.MAX_VALUE);
        Checks.goInto(x, 1, 1);
        x.leave(0);
        Checks.due("0 is returned too", x.returned(), 0);
    }

    @Sentence(in = "Promise 14", says = "0 at first")
    private static void returnedIs0AtFirst() {
        CallRows x = withTwoPrograms();
        Checks.due("a new object", new CallRows(9).returned(), 0);
        x.leave(9);
        Checks.due("a refused leave", x.returned(), 0);
        Checks.goInto(x, 1, 1);
        Checks.due("one is entered, none left", x.returned(), 0);
    }
}
