/** Promises 11 and 15: programs that are cancelled, and counts. */
public final class CancelTest {
    public static void main(String[] args) {
        Sentences.run(CancelTest.class);
    }

    /** 2 lies in 1, 3 in 2, 4 in 3; 5 lies in 1; 6 is outermost. Their names are their numbers. */
    private static CallRows withInnerOnes() {
        CallRows x = new CallRows(9);
        int[] within = {0, 1, 2, 3, 1, 0};
        for (int i = 1; i <= 6; i++) {
            x.program(within[i - 1], i, 0);
            x.cell(i, 10 * i);
        }
        return x;
    }

    /** Enters 1, 2, 3, 4 and 5, sets the cell of each, and leaves them all. */
    private static void useInnerOnes(CallRows x) {
        for (int i = 1; i <= 4; i++) {
            Checks.goInto(x, i, i);
            x.set(i - 1, 99);
        }
        for (int i = 4; i > 1; i--) {
            x.leave(8);
        }
        Checks.goInto(x, 5, 5);
        x.set(4, 99);
        x.leave(8);
        x.leave(8);
    }

    @Sentence(in = "Promise 11", says = "The running program (from; 0 without one) cancels a name, "
        + "which is found as by call")
    private static void cancelledNameIsFoundAsByCall() {
        CallRows x = new CallRows(9);
        x.program(0, 1, 0);
        x.program(1, 2, 0);
        x.program(1, 3, Checks.COMMON);
        x.program(0, 3, 0);
        x.program(2, 4, 0);
        x.program(0, 4, 0);
        Checks.goInto(x, 3, 4);
        x.leave(0);
        Checks.goInto(x, 4, 6);
        x.leave(0);
        Checks.goInto(x, 1, 1);
        Checks.goInto(x, 3, 3);
        x.leave(0);
        Checks.goInto(x, 2, 2);
        Checks.goInto(x, 4, 5);
        x.leave(0);
        Checks.due("directly within", x.cancel(2, 4), 1);
        Checks.due("the one directly within is fresh", x.state(5), 0);
        Checks.due("the outermost one of its name is not", x.state(6), 1);
        Checks.due("common", x.cancel(2, 3), 1);
        Checks.due("the common one is fresh", x.state(3), 0);
        Checks.due("the outermost one of its name is not", x.state(4), 1);
        x.leave(0);
        x.leave(0);
        Checks.due("from none, outermost", x.cancel(0, 3), 1);
        Checks.due("the outermost one is fresh", x.state(4), 0);
    }

    @Sentence(in = "Promise 11", says = "The running program (from; 0 without one) cancels a name, "
        + "which is found as by call")
    private static void recursiveOneAroundIsFoundAsByCall() {
        CallRows x = new CallRows(9);
        x.program(0, 9, 0);
        x.program(1, 1, Checks.RECURSIVE);
        x.program(0, 1, 0);
        Checks.goInto(x, 1, 3);
        x.leave(0);
        Checks.goInto(x, 9, 1);
        Checks.goInto(x, 1, 2);
        Checks.due("itself, not the outermost one", x.cancel(2, 1), -5);
        Checks.due("the outermost one has its data", x.state(3), 1);
    }

    @Sentence(in = "Promise 11", says = "The running program (from; 0 without one) cancels a name, "
        + "which is found as by call")
    private static void cancelLeavesWhatIsPrepared() {
        CallRows x = new CallRows(9);
        x.program(0, 1, 0);
        x.program(0, 2, 0);
        x.formal(1, 0, 8);
        x.shared(0);
        x.call(0, 1);
        x.actual(0, 1);
        Checks.due("another one", x.cancel(0, 2), 0);
        Checks.due("refused", x.cancel(0, 9), -3);
        Checks.due("the prepared one", x.cancel(0, 1), 0);
        Checks.due("it is still prepared", x.count(4), 1);
        Checks.due("with its argument", x.count(5), 1);
        Checks.due("it is entered", x.enter(), 1);
    }

    @Sentence(in = "Promise 11", says = "it, and all that lie in it at any depth, become fresh")
    private static void cancelledOnesBecomeFresh() {
        CallRows x = withInnerOnes();
        useInnerOnes(x);
        Checks.goInto(x, 6, 6);
        x.set(5, 99);
        x.leave(8);
        x.cancel(0, 1);
        for (int i = 1; i <= 5; i++) {
            Checks.due("state of " + i, x.state(i), 0);
        }
        Checks.due("one that does not lie in it", x.state(6), 1);
        for (int i = 1; i <= 4; i++) {
            Checks.goInto(x, i, i);
            Checks.dueValue("first value", x, i - 1, 10 * i);
        }
        Checks.goInto(x, 6, 6);
        Checks.dueValue("the value of the other", x, 5, 99);
    }

    @Sentence(in = "Promise 11", says = "it, and all that lie in it at any depth, become fresh")
    private static void thoseBesideAndAroundKeepTheirData() {
        CallRows x = withInnerOnes();
        useInnerOnes(x);
        Checks.goInto(x, 1, 1);
        Checks.due("cancel", x.cancel(1, 2), 3);
        int[] states = {2, 0, 0, 0, 1, 0};
        for (int i = 1; i <= 6; i++) {
            Checks.due("state of " + i, x.state(i), states[i - 1]);
        }
        Checks.dueValue("the one around", x, 0, 99);
        Checks.goInto(x, 5, 5);
        Checks.dueValue("the one beside", x, 4, 99);
    }

    @Sentence(in = "Promise 11", says = "how many of them had data")
    private static void cancelAnswersHowManyHadData() {
        CallRows x = withInnerOnes();
        Checks.due("all are fresh", x.cancel(0, 1), 0);
        useInnerOnes(x);
        Checks.due("without those in it", x.cancel(0, 6), 0);
        Checks.due("all five", x.cancel(0, 1), 5);
        Checks.due("again", x.cancel(0, 1), 0);
        Checks.goInto(x, 1, 1);
        Checks.goInto(x, 2, 2);
        x.leave(0);
        x.leave(0);
        Checks.due("two of five", x.cancel(0, 1), 2);
        Checks.goInto(x, 6, 6);
        x.leave(0);
        Checks.due("one", x.cancel(0, 6), 1);
    }

    @Sentence(in = "Promise 11", says = "how many of them had data")
    private static void initialAndRecursiveOnesHadNone() {
        CallRows x = new CallRows(9);
        x.program(0, 1, 0);
        x.program(1, 2, Checks.INITIAL);
        x.program(1, 3, Checks.RECURSIVE);
        x.program(1, 4, Checks.COMMON + Checks.GLOBAL);
        Checks.goInto(x, 1, 1);
        for (int i = 2; i <= 4; i++) {
            Checks.goInto(x, i, i);
            x.leave(0);
        }
        Checks.due("an initial one", x.cancel(1, 2), 0);
        Checks.due("a recursive one", x.cancel(1, 3), 0);
        x.leave(0);
        Checks.due("the two others", x.cancel(0, 1), 2);
    }

    @Sentence(in = "Promise 11", says = "how many of them had data")
    private static void allSixtyHadData() {
        CallRows x = new CallRows(65536);
        for (int i = 0; i < 60; i++) {
            x.program(i, i, 0);
        }
        for (int i = 0; i < 60; i++) {
            Checks.goInto(x, i, i + 1);
        }
        for (int i = 0; i < 60; i++) {
            x.leave(0);
        }
        Checks.due("each within the one before", x.cancel(0, 0), 60);
    }

    @Sentence(in = "Promise 11", says = "-2 when from is not the running one, or name is not so")
    private static void cancelWithFromOrNameNotSo() {
        CallRows x = withInnerOnes();
        useInnerOnes(x);
        String before = Checks.seen(x);
        int[] notNone = {1, 6, 7, -1, Checks.MIN, Checks.MAX};
        for (int from : notNone) {
            Checks.due("from " + from + ", none runs", x.cancel(from, 1), -2);
        }
        int[] notNames = {-1, 100, 101, Checks.MIN, Checks.MAX};
        for (int name : notNames) {
            Checks.due("name " + name + ", none runs", x.cancel(0, name), -2);
        }
        Checks.dueSame("a refused cancel", x, before);
        Checks.goInto(x, 1, 1);
        before = Checks.seen(x);
        int[] notOne = {0, 2, 6, 7, -1, Checks.MIN, Checks.MAX};
        for (int from : notOne) {
            Checks.due("from " + from + ", 1 runs", x.cancel(from, 2), -2);
        }
        for (int name : notNames) {
            Checks.due("name " + name + ", 1 runs", x.cancel(1, name), -2);
        }
        Checks.dueSame("a refused cancel", x, before);
    }

    @Sentence(in = "Promise 11", says = "-3 when it is not found")
    private static void cancelOfANameThatIsNotFound() {
        CallRows x = withInnerOnes();
        useInnerOnes(x);
        String before = Checks.seen(x);
        Checks.due("none has it", x.cancel(0, 99), -3);
        Checks.due("an inner one has it", x.cancel(0, 2), -3);
        Checks.dueSame("a refused cancel", x, before);
        Checks.goInto(x, 1, 1);
        Checks.due("one within an inner one has it", x.cancel(1, 3), -3);
        Checks.due("the inner one", x.cancel(1, 2), 3);
        Checks.due("a new object", new CallRows(9).cancel(0, 0), -3);
    }

    @Sentence(in = "Promise 11", says = "-5 when one of them is active")
    private static void cancelOfOneThatIsActive() {
        CallRows x = withInnerOnes();
        x.program(0, 7, Checks.RECURSIVE);
        useInnerOnes(x);
        Checks.goInto(x, 1, 1);
        String before = Checks.seen(x);
        Checks.due("the running one", x.cancel(1, 1), -5);
        Checks.dueSame("a refused cancel", x, before);
        Checks.goInto(x, 7, 7);
        Checks.due("a recursive one", x.cancel(7, 7), -5);
        Checks.due("an active one that does not run", x.cancel(7, 1), -5);
        Checks.due("one that is not active", x.cancel(7, 6), 0);
        Checks.due("those in the active one have their data", x.state(3), 1);
    }

    @Sentence(in = "Promise 11", says = "-5 when one of them is active")
    private static void cancelOfOneWithAnActiveOneInIt() {
        CallRows x = withInnerOnes();
        useInnerOnes(x);
        for (int i = 1; i <= 4; i++) {
            Checks.goInto(x, i, i);
        }
        Checks.due("the outermost one around", x.cancel(4, 1), -5);
        x.leave(0);
        Checks.due("the one that was left", x.cancel(3, 4), 1);
        Checks.goInto(x, 6, 6);
        Checks.due("from one beside, the outermost one", x.cancel(6, 1), -5);
        Checks.due("one in it has its data", x.state(5), 1);
    }

    /** Programs 1, 2 (recursive, two formals) and 3 (in 1); cell 0 of program 1, cell 1 external. */
    private static CallRows toCount() {
        CallRows x = new CallRows(9);
        x.program(0, 1, 0);
        x.program(0, 2, Checks.RECURSIVE);
        x.program(1, 3, 0);
        x.cell(1, 0);
        x.shared(0);
        x.formal(2, 2, 1);
        x.formal(2, 2, 1);
        return x;
    }

    @Sentence(in = "Promise 15", says = "what = 0 programs")
    private static void countOfPrograms() {
        CallRows x = new CallRows(9);
        Checks.due("at first", x.count(0), 0);
        for (int i = 1; i <= 60; i++) {
            x.program(0, i, 0);
            Checks.due("after " + i, x.count(0), i);
        }
        x.program(0, 99, 0);
        Checks.due("when there are 60", x.count(0), 60);
    }

    @Sentence(in = "Promise 15", says = "1 cells")
    private static void countOfCells() {
        CallRows x = toCount();
        Checks.due("one of a program, one external", x.count(1), 2);
        x.cell(2, 0);
        Checks.due("one more of a program", x.count(1), 3);
        x.shared(1);
        Checks.due("one more external", x.count(1), 4);
        x.shared(1);
        Checks.due("the same again", x.count(1), 4);
        Checks.goInto(x, 2, 2);
        Checks.goInto(x, 2, 2);
        Checks.due("calls make no cells", x.count(1), 4);
        for (int i = 2; i < 100; i++) {
            x.shared(i);
        }
        Checks.due("all external ones", x.count(1), 102);
    }

    @Sentence(in = "Promise 15", says = "2 active ones")
    private static void countOfActiveOnes() {
        CallRows x = toCount();
        Checks.due("none", x.count(2), 0);
        x.call(0, 2);
        Checks.due("one is prepared", x.count(2), 0);
        x.enter();
        Checks.due("one", x.count(2), 1);
        Checks.goInto(x, 2, 2);
        Checks.due("each call of a recursive one", x.count(2), 2);
        Checks.goInto(x, 1, 1);
        Checks.due("three", x.count(2), 3);
        x.leave(0);
        x.leave(0);
        x.leave(0);
        Checks.due("none again", x.count(2), 0);
        x.leave(0);
        Checks.due("never less", x.count(2), 0);
    }

    @Sentence(in = "Promise 15", says = "3 the running one (0 without)")
    private static void countOfTheRunningOne() {
        CallRows x = toCount();
        Checks.due("none", x.count(3), 0);
        x.call(0, 2);
        Checks.due("one is prepared", x.count(3), 0);
        x.enter();
        Checks.due("2", x.count(3), 2);
        Checks.goInto(x, 1, 1);
        Checks.goInto(x, 3, 3);
        Checks.due("3", x.count(3), 3);
        x.leave(0);
        Checks.due("1", x.count(3), 1);
        x.leave(0);
        x.leave(0);
        Checks.due("none again", x.count(3), 0);
    }

    @Sentence(in = "Promise 15", says = "4 the prepared one (0 without)")
    private static void countOfThePreparedOne() {
        CallRows x = toCount();
        Checks.due("none", x.count(4), 0);
        x.call(0, 2);
        Checks.due("2", x.count(4), 2);
        x.call(0, 1);
        Checks.due("1 in its place", x.count(4), 1);
        x.enter();
        Checks.due("entered", x.count(4), 0);
        x.call(1, 3);
        Checks.due("3", x.count(4), 3);
        x.leave(0);
        Checks.due("left", x.count(4), 0);
    }

    @Sentence(in = "Promise 15", says = "5 its arguments")
    private static void countOfArguments() {
        CallRows x = toCount();
        Checks.due("none is prepared", x.count(5), 0);
        x.call(0, 2);
        Checks.due("none is told", x.count(5), 0);
        for (int i = 1; i <= 16; i++) {
            x.actual(1, i % 3);
            Checks.due("after " + i, x.count(5), i);
        }
        x.actual(1, 0);
        Checks.due("when there are 16", x.count(5), 16);
        x.call(0, 2);
        Checks.due("a new call", x.count(5), 0);
        x.actual(1, 0);
        x.actual(9, 0);
        Checks.due("a refused one does not count", x.count(5), 1);
        x.enter();
        Checks.due("entered", x.count(5), 0);
    }

    @Sentence(in = "Promise 15", says = "6 formals of the running one (0 without)")
    private static void countOfFormals() {
        CallRows x = toCount();
        Checks.due("none runs", x.count(6), 0);
        x.call(0, 2);
        Checks.due("one is prepared", x.count(6), 0);
        x.actual(0, 2);
        x.enter();
        Checks.due("also omitted and lacking ones", x.count(6), 2);
        x.call(2, 1);
        Checks.due("another is prepared", x.count(6), 2);
        x.enter();
        Checks.due("one without formals", x.count(6), 0);
        x.leave(0);
        Checks.due("back in the first", x.count(6), 2);
        x.leave(0);
        Checks.due("none runs again", x.count(6), 0);
    }

    @Sentence(in = "Promise 15", says = "NONE for others.")
    private static void countOfOthers() {
        CallRows x = toCount();
        int[] others = {-1, 7, 8, 100, Checks.MIN, Checks.MAX};
        for (int what : others) {
            Checks.due("count(" + what + ")", x.count(what), -1);
        }
        x.call(0, 2);
        x.enter();
        for (int what : others) {
            Checks.due("2 runs, count(" + what + ")", x.count(what), -1);
        }
        Checks.due("NONE itself", CallRows.NONE, -1);
    }
}
