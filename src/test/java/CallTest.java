/** Promise 5: calls of a name, and what is prepared; and the last call that is promised at all. */
public final class CallTest {
    public static void main(String[] args) {
        Sentences.run(CallTest.class);
    }

    /** Program 1 is outermost; 2 and 3 lie directly in it, of the names 2 and 3. */
    private static CallRows withInnerOnes(int depth) {
        CallRows x = new CallRows(depth);
        x.program(0, 1, 0);
        x.program(1, 2, 0);
        x.program(1, 3, Checks.COMMON);
        return x;
    }

    @Sentence(in = "What it is", says = "An object is used for at most 512 calls after it has been made")
    private static void call512IsAnsweredAsDue() {
        CallRows x = new CallRows(65536);
        x.program(0, 1, Checks.RECURSIVE);
        for (int i = 0; i < 255; i++) {
            x.call(i == 0 ? 0 : 1, 1);
            x.enter();
        }
        Checks.due("call 512, with 255 active", x.call(1, 1), 1);
    }

    @Sentence(in = "What it is", says = "An object is used for at most 512 calls after it has been made")
    private static void theDeepestOnesAreAllLeft() {
        CallRows x = new CallRows(65536);
        x.program(0, 1, Checks.RECURSIVE);
        x.cell(1, 5);
        for (int i = 0; i < 127; i++) {
            x.call(i == 0 ? 0 : 1, 1);
            x.enter();
            x.set(0, i);
        }
        for (int i = 126; i > 62; i--) {
            Checks.dueValue("data of call " + i, x, 0, i);
            Checks.due("leave " + i, x.leave(0), 1);
        }
    }

    // Free is what they answer, not that they answer at all; AnyUseTest goes further.
    @Sentence(in = "What it is", says = "what later calls answer is free.")
    private static void laterCallsAnswerAnything() {
        CallRows x = new CallRows(65536);
        x.program(0, 1, Checks.RECURSIVE);
        for (int i = 0; i < 1000; i++) {
            x.call(x.count(3), 1);
            x.enter();
        }
        for (int i = 0; i < 1000; i++) {
            x.set(0, 1);
            x.leave(0);
        }
    }

    @Sentence(in = "Promise 5", says = "The running program (from; 0 without one) calls a name: "
        + "the program that it is")
    private static void callAnswersTheProgram() {
        CallRows x = withInnerOnes(9);
        Checks.due("from none", x.call(0, 1), 1);
        x.enter();
        Checks.due("from the running one", x.call(1, 3), 3);
        x.enter();
        Checks.due("from the one that runs now", x.call(3, 1), -5);
        x.leave(0);
        Checks.due("from the one that runs again", x.call(1, 2), 2);
        x.leave(0);
        Checks.due("from none again", x.call(0, 1), 1);
    }

    @Sentence(in = "Promise 5", says = "which is PREPARED, without arguments, in place of any other")
    private static void calledOneIsPrepared() {
        CallRows x = withInnerOnes(9);
        x.call(0, 1);
        Checks.due("it is prepared", x.count(4), 1);
        Checks.due("it is not active", x.state(1), 0);
        Checks.due("none is active", x.count(2), 0);
        Checks.due("none is running", x.count(3), 0);
    }

    @Sentence(in = "Promise 5", says = "which is PREPARED, without arguments, in place of any other")
    private static void calledOneIsPreparedWithoutArguments() {
        CallRows x = withInnerOnes(9);
        x.formal(2, 2, 8);
        x.shared(0);
        Checks.goInto(x, 1, 1);
        x.call(1, 2);
        x.actual(0, 0);
        Checks.due("the same again", x.call(1, 2), 2);
        Checks.due("its arguments", x.count(5), 0);
        Checks.due("enter", x.enter(), 1);
        Checks.dueThrow("the argument told before is gone", x, -1);
    }

    @Sentence(in = "Promise 5", says = "which is PREPARED, without arguments, in place of any other")
    private static void calledOneIsPreparedInPlaceOfAnyOther() {
        CallRows x = withInnerOnes(9);
        x.shared(0);
        Checks.goInto(x, 1, 1);
        x.call(1, 2);
        x.actual(0, 0);
        Checks.due("another", x.call(1, 3), 3);
        Checks.due("the other is prepared", x.count(4), 3);
        Checks.due("its arguments", x.count(5), 0);
        Checks.due("enter", x.enter(), 1);
        Checks.due("the other runs", x.count(3), 3);
        Checks.due("the first is fresh", x.state(2), 0);
        Checks.due("the first is not prepared any more", x.enter(), -4);
    }

    @Sentence(in = "Promise 5", says = "-2 when from is not the running one, or name is not so")
    private static void callFromOneThatIsNotRunning() {
        CallRows x = withInnerOnes(9);
        int[] notNone = {1, 2, -1, 4, Checks.MIN, Checks.MAX};
        for (int from : notNone) {
            Checks.due("from " + from + ", none runs", x.call(from, 1), -2);
        }
        Checks.goInto(x, 1, 1);
        Checks.goInto(x, 2, 2);
        int[] notTwo = {0, 1, 3, -1, -2, 4, Checks.MIN, Checks.MAX};
        for (int from : notTwo) {
            Checks.due("from " + from + ", 2 runs", x.call(from, 3), -2);
        }
        Checks.due("from 2", x.call(2, 3), 3);
    }

    @Sentence(in = "Promise 5", says = "-2 when from is not the running one, or name is not so")
    private static void callOfANameThatIsNotSo() {
        CallRows x = withInnerOnes(9);
        int[] notSo = {-1, 100, 101, Checks.MIN, Checks.MAX};
        for (int name : notSo) {
            Checks.due("name " + name + ", none runs", x.call(0, name), -2);
        }
        Checks.goInto(x, 1, 1);
        for (int name : notSo) {
            Checks.due("name " + name + ", 1 runs", x.call(1, name), -2);
        }
    }

    @Sentence(in = "Promise 5", says = "-3 when it is not found")
    private static void callOfANameThatIsNotFound() {
        CallRows x = withInnerOnes(9);
        Checks.due("none has it", x.call(0, 0), -3);
        Checks.due("none has the greatest", x.call(0, 99), -3);
        Checks.due("an inner one has it", x.call(0, 2), -3);
        Checks.goInto(x, 1, 1);
        Checks.due("none has it, 1 runs", x.call(1, 99), -3);
        Checks.goInto(x, 3, 3);
        Checks.due("one beside has it, that is not common", x.call(3, 2), -3);
    }

    @Sentence(in = "Promise 5", says = "-5 when it is active, and not recursive")
    private static void callOfOneThatIsActive() {
        CallRows x = new CallRows(9);
        x.program(0, 1, 0);
        x.program(0, 2, Checks.INITIAL + Checks.COMMON + Checks.GLOBAL);
        Checks.goInto(x, 1, 1);
        Checks.due("the running one", x.call(1, 1), -5);
        Checks.goInto(x, 2, 2);
        Checks.due("its caller", x.call(2, 1), -5);
        Checks.due("the running one, with all other marks", x.call(2, 2), -5);
        x.leave(0);
        Checks.due("one that is not active any more", x.call(1, 2), 2);
    }

    @Sentence(in = "Promise 5", says = "-5 when it is active, and not recursive")
    private static void callOfOneThatIsActiveAndRecursive() {
        CallRows x = new CallRows(9);
        x.program(0, 1, Checks.RECURSIVE);
        x.program(0, 2, 0);
        Checks.goInto(x, 1, 1);
        Checks.due("the running one", x.call(1, 1), 1);
        Checks.goInto(x, 2, 2);
        Checks.due("its caller", x.call(2, 1), 1);
        x.enter();
        Checks.due("active twice", x.call(1, 1), 1);
        Checks.due("the one between", x.call(1, 2), -5);
    }

    @Sentence(in = "Promise 5", says = "-6 when depth are active")
    private static void callWhenDepthAreActive() {
        CallRows x = withInnerOnes(2);
        Checks.due("none of 2 is active", x.call(0, 1), 1);
        x.enter();
        Checks.due("1 of 2 is active", x.call(1, 2), 2);
        x.enter();
        Checks.due("2 of 2 are active", x.call(2, 3), -6);
        x.leave(0);
        Checks.due("1 of 2 is active again", x.call(1, 3), 3);
    }

    @Sentence(in = "Promise 5", says = "-6 when depth are active")
    private static void callWhenDepthAreActiveOfARecursiveOne() {
        CallRows x = new CallRows(2);
        x.program(0, 1, Checks.RECURSIVE);
        Checks.goInto(x, 1, 1);
        Checks.goInto(x, 1, 1);
        Checks.due("each of its calls counts", x.call(1, 1), -6);
        CallRows none = new CallRows(0);
        none.program(0, 1, 0);
        Checks.due("none may be active", none.call(0, 1), -6);
    }

    @Sentence(in = "Promise 5", says = "(Then nothing is prepared.)")
    private static void refusedCallPreparesNothing() {
        CallRows x = withInnerOnes(2);
        int[][] refused = {{0, 2, -2}, {2, 2, -2}, {1, -1, -2}, {1, 100, -2}, {1, 9, -3}, {1, 1, -5}};
        Checks.goInto(x, 1, 1);
        String before = Checks.seen(x);
        for (int[] one : refused) {
            String which = "call(" + one[0] + ", " + one[1] + ")";
            Checks.due(which, x.call(one[0], one[1]), one[2]);
            Checks.due(which + ", then prepared", x.count(4), 0);
            Checks.due(which + ", then actual()", x.actual(0, 2), -4);
            Checks.due(which + ", then enter()", x.enter(), -4);
        }
        Checks.dueSame("refused calls", x, before);
    }

    @Sentence(in = "Promise 5", says = "(Then nothing is prepared.)")
    private static void refusedCallLeavesNothingPrepared() {
        CallRows x = withInnerOnes(2);
        int[][] refused = {{0, 2, -2}, {1, 100, -2}, {1, 9, -3}, {1, 1, -5}};
        Checks.goInto(x, 1, 1);
        for (int[] one : refused) {
            String which = "call(" + one[0] + ", " + one[1] + ")";
            x.call(1, 2);
            x.actual(0, 2);
            Checks.due(which, x.call(one[0], one[1]), one[2]);
            Checks.due(which + ", then prepared", x.count(4), 0);
            Checks.due(which + ", then its arguments", x.count(5), 0);
            Checks.due(which + ", then actual()", x.actual(0, 2), -4);
            Checks.due(which + ", then enter()", x.enter(), -4);
        }
    }

    // What is prepared has been called with less than depth active, and no more are active until it is
    // entered or dropped: a -6 never finds another one prepared.
    @Sentence(in = "Promise 5", says = "(Then nothing is prepared.)")
    private static void callThatIsTooDeepPreparesNothing() {
        CallRows x = withInnerOnes(2);
        Checks.goInto(x, 1, 1);
        Checks.goInto(x, 2, 2);
        String before = Checks.seen(x);
        Checks.due("too deep", x.call(2, 3), -6);
        Checks.due("prepared", x.count(4), 0);
        Checks.due("actual()", x.actual(0, 2), -4);
        Checks.due("enter()", x.enter(), -4);
        Checks.dueSame("a call that is too deep", x, before);
    }
}
