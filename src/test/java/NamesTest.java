/** The sentences under "Terms" on how a name is found, in their order. */
public final class NamesTest {
    public static void main(String[] args) {
        Sentences.run(NamesTest.class);
    }

    @Sentence(in = "Terms", says = "A NAME called from a program p is: a program directly within p")
    private static void directlyWithinComesFirst() {
        CallRows x = new CallRows(9);
        x.program(0, 9, 0);
        x.program(1, 1, Checks.RECURSIVE);
        x.program(2, 1, 0);
        x.program(1, 2, Checks.COMMON);
        x.program(2, 2, 0);
        x.program(0, 3, 0);
        x.program(2, 3, 0);
        Checks.goInto(x, 9, 1);
        Checks.goInto(x, 1, 2);
        Checks.due("before itself, which is recursive", x.call(2, 1), 3);
        Checks.due("before a common one", x.call(2, 2), 5);
        Checks.due("before an outermost one", x.call(2, 3), 7);
    }

    @Sentence(in = "Terms", says = "A NAME called from a program p is: a program directly within p")
    private static void directlyWithinIsNotDeeper() {
        CallRows x = new CallRows(9);
        x.program(0, 1, 0);
        x.program(1, 2, 0);
        x.program(2, 3, Checks.COMMON);
        Checks.goInto(x, 1, 1);
        Checks.due("within one that is within it", x.call(1, 3), -3);
    }

    @Sentence(in = "Terms", says = "A NAME called from a program p is: a program directly within p")
    private static void directlyWithinIsNotWithinAnother() {
        CallRows x = new CallRows(9);
        x.program(0, 1, 0);
        x.program(0, 2, 0);
        x.program(2, 3, 0);
        x.program(1, 3, 0);
        Checks.goInto(x, 1, 1);
        Checks.due("its own one, though the other's is older", x.call(1, 3), 4);
        Checks.goInto(x, 2, 2);
        Checks.due("its own one", x.call(2, 3), 3);
    }

    @Sentence(in = "Terms", says = "else p, or the first of those it lies in (from the inner ones on), "
        + "that is recursive and has it")
    private static void recursiveOneItself() {
        CallRows x = new CallRows(9);
        x.program(0, 9, 0);
        x.program(1, 1, Checks.RECURSIVE);
        x.program(0, 1, 0);
        Checks.goInto(x, 9, 1);
        Checks.goInto(x, 1, 2);
        Checks.due("itself, before an outermost one", x.call(2, 1), 2);
    }

    @Sentence(in = "Terms", says = "else p, or the first of those it lies in (from the inner ones on), "
        + "that is recursive and has it")
    private static void recursiveOneItselfBeforeOneAround() {
        CallRows x = new CallRows(9);
        x.program(0, 1, Checks.RECURSIVE);
        x.program(1, 1, Checks.RECURSIVE);
        Checks.goInto(x, 1, 1);
        Checks.goInto(x, 1, 2);
        Checks.due("itself", x.call(2, 1), 2);
    }

    @Sentence(in = "Terms", says = "else p, or the first of those it lies in (from the inner ones on), "
        + "that is recursive and has it")
    private static void recursiveOnesFromTheInnerOnesOn() {
        CallRows x = new CallRows(9);
        x.program(0, 1, Checks.RECURSIVE);
        x.program(1, 1, Checks.RECURSIVE);
        x.program(2, 1, 0);
        x.program(3, 2, 0);
        Checks.goInto(x, 1, 1);
        Checks.goInto(x, 1, 2);
        Checks.goInto(x, 1, 3);
        Checks.due("not itself, which is not recursive", x.call(3, 1), 2);
        Checks.goInto(x, 2, 4);
        Checks.due("past one that is not recursive, the inner of two", x.call(4, 1), 2);
    }

    @Sentence(in = "Terms", says = "else p, or the first of those it lies in (from the inner ones on), "
        + "that is recursive and has it")
    private static void recursiveOneHasTheName() {
        CallRows x = new CallRows(9);
        x.program(0, 1, Checks.RECURSIVE);
        x.program(1, 2, Checks.RECURSIVE);
        Checks.goInto(x, 1, 1);
        Checks.goInto(x, 2, 2);
        Checks.due("the one around that has it", x.call(2, 1), 1);
        Checks.due("none has it", x.call(2, 3), -3);
    }

    @Sentence(in = "Terms", says = "else p, or the first of those it lies in (from the inner ones on), "
        + "that is recursive and has it")
    private static void recursiveOneComesBeforeACommonOne() {
        CallRows x = new CallRows(9);
        x.program(0, 9, 0);
        x.program(1, 1, Checks.RECURSIVE);
        x.program(2, 2, 0);
        x.program(2, 1, Checks.COMMON);
        x.program(0, 1, 0);
        Checks.goInto(x, 9, 1);
        Checks.goInto(x, 1, 2);
        Checks.goInto(x, 2, 3);
        Checks.due("recursive and around, before common and beside", x.call(3, 1), 2);
    }

    @Sentence(in = "Terms", says = "else p, or the first of those it lies in (from the inner ones on), "
        + "that is recursive and has it")
    private static void recursiveOneBesideIsNotFound() {
        CallRows x = new CallRows(9);
        x.program(0, 1, 0);
        x.program(1, 2, 0);
        x.program(1, 3, Checks.RECURSIVE);
        Checks.goInto(x, 1, 1);
        Checks.goInto(x, 2, 2);
        Checks.due("recursive, but beside it", x.call(2, 3), -3);
    }

    @Sentence(in = "Terms", says = "else a common one directly within one that p lies in "
        + "(from the inner ones on), that is not p and that p does not lie in")
    private static void commonOnesFromTheInnerOnesOn() {
        CallRows x = new CallRows(9);
        x.program(0, 1, 0);
        x.program(1, 2, 0);
        x.program(2, 3, 0);
        x.program(1, 4, Checks.COMMON);
        x.program(2, 4, Checks.COMMON);
        x.program(1, 5, Checks.COMMON);
        x.program(2, 5, 0);
        x.program(0, 4, 0);
        x.program(1, 6, 0);
        Checks.goInto(x, 1, 1);
        Checks.goInto(x, 2, 2);
        Checks.goInto(x, 3, 3);
        Checks.due("the inner of two, before an outermost one", x.call(3, 4), 5);
        Checks.due("past an inner one that is not common", x.call(3, 5), 6);
        Checks.due("one that is not common", x.call(3, 6), -3);
    }

    @Sentence(in = "Terms", says = "else a common one directly within one that p lies in "
        + "(from the inner ones on), that is not p and that p does not lie in")
    private static void commonOneIsDirectlyWithinOneAround() {
        CallRows x = new CallRows(9);
        x.program(0, 1, 0);
        x.program(1, 2, 0);
        x.program(1, 3, Checks.COMMON);
        x.program(3, 4, Checks.COMMON);
        x.program(0, 5, 0);
        x.program(5, 6, Checks.COMMON);
        Checks.goInto(x, 1, 1);
        Checks.goInto(x, 2, 2);
        Checks.due("within one beside it", x.call(2, 4), -3);
        Checks.due("within one that it does not lie in", x.call(2, 6), -3);
    }

    @Sentence(in = "Terms", says = "else a common one directly within one that p lies in "
        + "(from the inner ones on), that is not p and that p does not lie in")
    private static void commonOneIsNotItself() {
        CallRows x = new CallRows(9);
        x.program(0, 1, 0);
        x.program(1, 2, Checks.COMMON);
        x.program(2, 3, Checks.COMMON);
        x.program(1, 3, Checks.COMMON);
        x.program(0, 2, 0);
        Checks.goInto(x, 1, 1);
        Checks.goInto(x, 2, 2);
        Checks.due("not itself, but an outermost one", x.call(2, 2), 5);
        Checks.goInto(x, 3, 3);
        Checks.due("not itself, but a common one further out", x.call(3, 3), 4);
    }

    @Sentence(in = "Terms", says = "else a common one directly within one that p lies in "
        + "(from the inner ones on), that is not p and that p does not lie in")
    private static void commonOneIsNotOneAround() {
        CallRows x = new CallRows(9);
        x.program(0, 1, 0);
        x.program(1, 2, Checks.COMMON);
        x.program(2, 3, 0);
        x.program(3, 4, 0);
        Checks.goInto(x, 1, 1);
        Checks.goInto(x, 2, 2);
        Checks.goInto(x, 3, 3);
        Checks.due("directly around", x.call(3, 2), -3);
        Checks.goInto(x, 4, 4);
        Checks.due("around, further out", x.call(4, 2), -3);
    }

    @Sentence(in = "Terms", says = "else an outermost one")
    private static void outermostComesLast() {
        CallRows x = new CallRows(9);
        x.program(0, 1, 0);
        x.program(1, 2, 0);
        x.program(0, 2, 0);
        Checks.goInto(x, 1, 1);
        Checks.goInto(x, 2, 2);
        Checks.due("neither itself nor common, but outermost", x.call(2, 2), 3);
        Checks.due("outermost and around", x.call(2, 1), -5);
        Checks.goInto(x, 2, 3);
        Checks.due("outermost and itself", x.call(3, 2), -5);
    }

    @Sentence(in = "Terms", says = "From none: an outermost one.")
    private static void fromNoneAnOutermostOne() {
        CallRows x = new CallRows(9);
        x.program(0, 1, 0);
        x.program(1, 2, Checks.COMMON);
        x.program(1, 4, Checks.RECURSIVE + Checks.GLOBAL);
        x.program(0, 3, 0);
        x.program(1, 3, Checks.COMMON);
        Checks.due("outermost", x.call(0, 3), 4);
        Checks.due("common, but not outermost", x.call(0, 2), -3);
        Checks.due("recursive and global, but not outermost", x.call(0, 4), -3);
        Checks.goInto(x, 1, 1);
        x.leave(0);
        Checks.due("outermost, after one was left", x.call(0, 3), 4);
        Checks.due("within the one that was left", x.call(0, 2), -3);
    }
}
