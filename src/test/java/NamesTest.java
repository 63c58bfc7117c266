/** Promise 5: which program a name is, and what is prepared. */
public final class NamesTest {
    public static void main(String[] args) {
        outermostFromNone();
        directlyWithinComesFirst();
        recursiveComesBeforeCommon();
        recursiveFromTheInnerOnesOn();
        commonFromTheInnerOnesOn();
        commonIsNotItselfNorAround();
        outermostComesLast();
        refusals();
        orderOfRefusals();
        preparedInPlaceOfAnyOther();
        refusedCallsPrepareNothing();
        recursiveAgainWhileActive();
        Checks.end();
    }

    private static void outermostFromNone() {
        CallRows x = new CallRows(9);
        x.program(0, 1, 0);
        x.program(1, 2, Checks.COMMON);
        x.program(0, 3, Checks.GLOBAL);
        Checks.due("5: outermost", x.call(0, 3), 3);
        Checks.due("5: none finds no inner one", x.call(0, 2), -3);
    }

    private static void directlyWithinComesFirst() {
        CallRows x = new CallRows(9);
        x.program(0, 1, Checks.RECURSIVE);
        x.program(1, 1, 0);
        x.program(0, 2, 0);
        x.program(1, 2, 0);
        x.program(4, 3, 0);
        Checks.goInto(x, 1, 1);
        Checks.due("5: within before recursive", x.call(1, 1), 2);
        Checks.due("5: within before outermost", x.call(1, 2), 4);
        Checks.due("5: not at a greater depth", x.call(1, 3), -3);
    }

    private static void recursiveComesBeforeCommon() {
        CallRows x = new CallRows(9);
        x.program(0, 9, 0);
        x.program(1, 1, Checks.RECURSIVE);
        x.program(2, 2, 0);
        x.program(2, 1, Checks.COMMON);
        x.program(0, 1, 0);
        Checks.goInto(x, 9, 1);
        Checks.goInto(x, 1, 2);
        Checks.goInto(x, 2, 3);
        Checks.due("5: recursive around before common", x.call(3, 1), 2);
    }

    private static void recursiveFromTheInnerOnesOn() {
        CallRows x = new CallRows(9);
        x.program(0, 1, Checks.RECURSIVE);
        x.program(1, 1, Checks.RECURSIVE);
        x.program(2, 1, 0);
        x.program(3, 2, Checks.RECURSIVE);
        Checks.goInto(x, 1, 1);
        Checks.goInto(x, 1, 2);
        Checks.goInto(x, 1, 3);
        Checks.due("5: not itself, which is not recursive", x.call(3, 1), 2);
        Checks.goInto(x, 2, 4);
        Checks.due("5: itself", x.call(4, 2), 4);
        Checks.due("5: the inner of two around", x.call(4, 1), 2);
    }

    private static void commonFromTheInnerOnesOn() {
        CallRows x = new CallRows(9);
        x.program(0, 1, 0);
        x.program(1, 2, 0);
        x.program(2, 3, 0);
        x.program(1, 4, Checks.COMMON);
        x.program(2, 4, Checks.COMMON);
        x.program(1, 5, Checks.COMMON);
        x.program(2, 5, 0);
        x.program(0, 4, 0);
        x.program(1, 6, 0);
        Checks.goInto(x, 1, 1);
        Checks.goInto(x, 2, 2);
        Checks.goInto(x, 3, 3);
        Checks.due("5: the inner common one", x.call(3, 4), 5);
        Checks.due("5: past an inner one that is not common", x.call(3, 5), 6);
        Checks.due("5: one that is not common", x.call(3, 6), -3);
    }

    private static void commonIsNotItselfNorAround() {
        CallRows x = new CallRows(9);
        x.program(0, 1, 0);
        x.program(1, 2, Checks.COMMON);
        x.program(2, 3, Checks.COMMON);
        x.program(1, 3, Checks.COMMON);
        x.program(0, 2, 0);
        Checks.goInto(x, 1, 1);
        Checks.goInto(x, 2, 2);
        Checks.due("5: not itself, though common", x.call(2, 2), 5);
        Checks.goInto(x, 3, 3);
        Checks.due("5: not the one around, though common", x.call(3, 2), 5);
        Checks.due("5: not itself, but the outer common one", x.call(3, 3), 4);
    }

    private static void outermostComesLast() {
        CallRows x = new CallRows(9);
        x.program(0, 1, 0);
        x.program(1, 2, 0);
        x.program(0, 2, Checks.COMMON);
        Checks.goInto(x, 1, 1);
        Checks.goInto(x, 2, 2);
        Checks.due("5: an outermost one", x.call(2, 2), 3);
        Checks.goInto(x, 2, 3);
        Checks.due("5: outermost and active", x.call(3, 1), -5);
        Checks.due("5: itself, outermost and active", x.call(3, 2), -5);
    }

    private static void refusals() {
        CallRows x = new CallRows(2);
        x.program(0, 1, 0);
        x.program(0, 2, 0);
        x.program(0, 3, 0);
        Checks.due("5: from is none, not 1", x.call(1, 1), -2);
        Checks.due("5: from below 0", x.call(-1, 1), -2);
        Checks.due("5: name below 0", x.call(0, -1), -2);
        Checks.due("5: name 100", x.call(0, 100), -2);
        Checks.due("5: no such name", x.call(0, 99), -3);
        Checks.goInto(x, 1, 1);
        Checks.due("5: from is 1, not none", x.call(0, 2), -2);
        Checks.due("5: from is 1, not 2", x.call(2, 2), -2);
        Checks.goInto(x, 2, 2);
        Checks.due("5: an active one that is not running", x.call(1, 3), -2);
        Checks.due("5: too deep", x.call(2, 3), -6);
    }

    private static void orderOfRefusals() {
        CallRows x = new CallRows(1);
        x.program(0, 1, 0);
        Checks.goInto(x, 1, 1);
        Checks.due("5: -2 before all", x.call(0, 99), -2);
        Checks.due("5: -3 before -6", x.call(1, 99), -3);
        Checks.due("5: -5 before -6", x.call(1, 1), -5);
    }

    private static void preparedInPlaceOfAnyOther() {
        CallRows x = new CallRows(2);
        x.program(0, 1, 0);
        x.program(0, 2, 0);
        x.shared(0);
        x.call(0, 1);
        x.actual(0, 0);
        Checks.due("5: prepared", x.count(4), 1);
        Checks.due("5: it is not active yet", x.state(1), 0);
        Checks.due("5: another", x.call(0, 2), 2);
        Checks.due("5: the other is prepared", x.count(4), 2);
        Checks.due("5: without arguments", x.count(5), 0);
        x.actual(0, 0);
        Checks.due("5: the same again", x.call(0, 2), 2);
        Checks.due("5: without arguments again", x.count(5), 0);
        Checks.due("5: and so it is entered", x.enter(), 1);
    }

    private static void refusedCallsPrepareNothing() {
        CallRows x = new CallRows(2);
        x.program(0, 1, 0);
        x.program(1, 2, 0);
        x.program(1, 3, Checks.COMMON);
        int[][] refused = {{0, 2, -2}, {1, 100, -2}, {1, 9, -3}, {1, 1, -5}};
        Checks.goInto(x, 1, 1);
        for (int[] one : refused) {
            Checks.due("5: prepared before", x.call(1, 2), 2);
            Checks.due("5: refused", x.call(one[0], one[1]), one[2]);
            Checks.due("5: nothing is prepared after " + one[2], x.count(4), 0);
            Checks.due("5: nothing to enter after " + one[2], x.enter(), -4);
        }
        Checks.goInto(x, 2, 2);
        Checks.due("5: too deep", x.call(2, 3), -6);
        Checks.due("5: nothing is prepared after -6", x.count(4), 0);
    }

    private static void recursiveAgainWhileActive() {
        CallRows x = new CallRows(3);
        x.program(0, 1, Checks.RECURSIVE);
        x.program(0, 2, 0);
        Checks.goInto(x, 1, 1);
        Checks.goInto(x, 2, 2);
        Checks.goInto(x, 1, 1);
        Checks.due("5: each call counts as active", x.count(2), 3);
        Checks.due("5: the depth is reached", x.call(1, 1), -6);
        x.leave(0);
        Checks.due("5: still active below", x.state(1), 2);
        Checks.due("5: the running one", x.count(3), 2);
    }
}
