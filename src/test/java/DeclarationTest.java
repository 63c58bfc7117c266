/** Promises 1 to 4 and 12: a new object, and what is declared in it. */
public final class DeclarationTest {
    public static void main(String[] args) {
        promise1NewObject();
        promise1DepthIsHeld();
        promise2Program();
        promise2Limit();
        promise2Order();
        promise3Cell();
        promise3Limit();
        promise3CellOfAProgramWithData();
        promise4Formal();
        promise4Limit();
        promise12Shared();
        promise12Limit();
        refusedDeclarationsChangeNothing();
        declarationsBetweenCallAndEnter();
        Checks.end();
    }

    private static void promise1NewObject() {
        CallRows x = new CallRows(4);
        for (int what = 0; what <= 6; what++) {
            Checks.due("1: count(" + what + ") of a new object", x.count(what), 0);
        }
        Checks.due("1: returned() of a new object", x.returned(), 0);
        Checks.due("1: state(1) of a new object", x.state(1), CallRows.NONE);
        Checks.dueThrow("1: a new object", x, 0);
    }

    private static void promise1DepthIsHeld() {
        int[] tooLow = {0, -1, Integer.MIN_VALUE};
        for (int depth : tooLow) {
            CallRows x = new CallRows(depth);
            x.program(0, 1, 0);
            Checks.due("1: call at depth " + depth, x.call(0, 1), -6);
        }
        int[] high = {255, 65536, 65537, Integer.MAX_VALUE};
        for (int depth : high) {
            CallRows x = new CallRows(depth);
            x.program(0, 1, Checks.RECURSIVE);
            for (int i = 0; i < 255; i++) {
                Checks.goInto(x, 1, 1);
            }
            Checks.due("1: active ones at depth " + depth, x.count(2), 255);
        }
        CallRows one = new CallRows(1);
        one.program(0, 1, Checks.RECURSIVE);
        Checks.goInto(one, 1, 1);
        Checks.due("1: a second call at depth 1", one.call(1, 1), -6);
        Checks.due("1: leave at depth 1", one.leave(0), 0);
        Checks.goInto(one, 1, 1);
    }

    private static void promise2Program() {
        CallRows x = new CallRows(4);
        Checks.due("2: first", x.program(0, 0, 0), 1);
        Checks.due("2: greatest name and marks", x.program(0, 99, 15), 2);
        Checks.due("2: the name of the one that it lies in", x.program(1, 0, 0), 3);
        Checks.due("2: the same name elsewhere", x.program(2, 0, 0), 4);
        Checks.due("2: name taken, outermost", x.program(0, 0, 1), -3);
        Checks.due("2: name taken, within", x.program(1, 0, 1), -3);
        Checks.due("2: within too great", x.program(5, 1, 0), -2);
        Checks.due("2: within below 0", x.program(-1, 1, 0), -2);
        Checks.due("2: least within", x.program(Integer.MIN_VALUE, 1, 0), -2);
        Checks.due("2: greatest within", x.program(Integer.MAX_VALUE, 1, 0), -2);
        Checks.due("2: name below 0", x.program(0, -1, 0), -2);
        Checks.due("2: name 100", x.program(0, 100, 0), -2);
        Checks.due("2: marks below 0", x.program(0, 1, -1), -2);
        Checks.due("2: marks 16", x.program(0, 1, 16), -2);
        Checks.due("2: how many", x.count(0), 4);
        Checks.goInto(x, 0, 1);
        Checks.due("2: one is active", x.program(0, 1, 0), -4);
        x.leave(0);
        Checks.due("2: none is active any more", x.program(0, 1, 0), 5);
    }

    private static void promise2Limit() {
        CallRows x = new CallRows(4);
        for (int i = 1; i <= 60; i++) {
            Checks.due("2: program " + i, x.program(i - 1, i, 0), i);
        }
        Checks.due("2: program 61", x.program(0, 99, 0), CallRows.NONE);
        Checks.due("2: how many at most", x.count(0), 60);
        Checks.due("2: within the last", x.program(60, 99, 0), CallRows.NONE);
        Checks.due("2: within one more", x.program(61, 99, 0), -2);
    }

    private static void promise2Order() {
        CallRows x = new CallRows(4);
        for (int i = 1; i <= 60; i++) {
            x.program(0, i, 0);
        }
        Checks.due("2: -3 before NONE", x.program(0, 7, 0), -3);
        Checks.goInto(x, 7, 7);
        Checks.due("2: -4 before -3 and NONE", x.program(0, 7, 0), -4);
        Checks.due("2: -2 before -4", x.program(0, 7, 16), -2);
    }

    private static void promise3Cell() {
        CallRows x = new CallRows(4);
        x.program(0, 1, 0);
        x.program(0, 2, 0);
        Checks.due("3: first", x.cell(1, Long.MIN_VALUE), 0);
        Checks.due("3: numbers go through all programs", x.cell(2, 5), 1);
        Checks.due("3: third", x.cell(1, Long.MAX_VALUE), 2);
        Checks.due("3: no program 0", x.cell(0, 1), -2);
        Checks.due("3: no program 3", x.cell(3, 1), -2);
        Checks.due("3: no program below 0", x.cell(-1, 1), -2);
        Checks.due("3: no greatest program", x.cell(Integer.MAX_VALUE, 1), -2);
        Checks.due("3: how many", x.count(1), 3);
        Checks.goInto(x, 1, 1);
        Checks.dueValue("3: its first cell", x, 0, Long.MIN_VALUE);
        Checks.dueThrow("3: the other's cell", x, 1);
        Checks.dueValue("3: its second cell", x, 2, Long.MAX_VALUE);
        Checks.due("3: one is active", x.cell(1, 1), -4);
        Checks.due("3: -2 before -4", x.cell(3, 1), -2);
    }

    private static void promise3Limit() {
        CallRows x = new CallRows(4);
        x.program(0, 1, 0);
        for (int i = 0; i < 199; i++) {
            Checks.due("3: cell " + i, x.cell(1, i), i);
        }
        Checks.due("3: an external cell counts too", x.shared(3), 199);
        Checks.due("3: cell 200", x.cell(1, 0), CallRows.NONE);
        Checks.due("3: -2 before NONE", x.cell(2, 0), -2);
        Checks.due("3: how many at most", x.count(1), 200);
        Checks.goInto(x, 1, 1);
        Checks.due("3: -4 before NONE", x.cell(1, 0), -4);
        Checks.dueValue("3: the last cell of a program", x, 198, 198);
        Checks.dueValue("3: the external cell", x, 199, 0);
        Checks.dueThrow("3: no cell 200", x, 200);
    }

    private static void promise3CellOfAProgramWithData() {
        CallRows x = new CallRows(4);
        x.program(0, 1, 0);
        x.cell(1, 10);
        Checks.goInto(x, 1, 1);
        x.set(0, 11);
        x.leave(0);
        Checks.due("3: a cell for one that has data", x.cell(1, 20), 1);
        Checks.due("3: it still has data", x.state(1), 1);
        Checks.goInto(x, 1, 1);
        Checks.dueValue("3: the data stayed", x, 0, 11);
        Checks.dueValue("3: the new cell's first value", x, 1, 20);
    }

    private static void promise4Formal() {
        CallRows x = new CallRows(4);
        x.program(0, 1, 0);
        x.program(0, 2, 0);
        Checks.due("4: first", x.formal(1, 2, 1), 0);
        Checks.due("4: second", x.formal(1, 3, 8), 1);
        Checks.due("4: first of another program", x.formal(2, 0, 8), 0);
        Checks.due("4: no program 0", x.formal(0, 0, 1), -2);
        Checks.due("4: no program 3", x.formal(3, 0, 1), -2);
        Checks.due("4: no program below 0", x.formal(-5, 0, 1), -2);
        Checks.due("4: how below 0", x.formal(1, -1, 1), -2);
        Checks.due("4: how 4", x.formal(1, 4, 1), -2);
        Checks.due("4: size 0", x.formal(1, 0, 0), -2);
        Checks.due("4: size 9", x.formal(1, 0, 9), -2);
        Checks.due("4: size below 0", x.formal(1, 0, -8), -2);
        Checks.goInto(x, 1, 1);
        Checks.due("4: how many", x.count(6), 2);
        Checks.due("4: one is active", x.formal(1, 0, 1), -4);
        Checks.due("4: -2 before -4", x.formal(1, 4, 1), -2);
    }

    private static void promise4Limit() {
        CallRows x = new CallRows(4);
        x.program(0, 1, 0);
        for (int i = 0; i < 16; i++) {
            Checks.due("4: formal " + i, x.formal(1, 2, 8), i);
        }
        Checks.due("4: formal 16", x.formal(1, 2, 8), CallRows.NONE);
        Checks.due("4: -2 before NONE", x.formal(1, 2, 9), -2);
        Checks.goInto(x, 1, 1);
        Checks.due("4: -4 before NONE", x.formal(1, 2, 8), -4);
        Checks.due("4: how many at most", x.count(6), 16);
    }

    private static void promise12Shared() {
        CallRows x = new CallRows(4);
        x.program(0, 1, 0);
        x.cell(1, 5);
        Checks.due("12: new", x.shared(99), 1);
        Checks.due("12: another", x.shared(0), 2);
        Checks.due("12: the same again", x.shared(99), 1);
        Checks.due("12: name below 0", x.shared(-1), -2);
        Checks.due("12: name 100", x.shared(100), -2);
        Checks.due("12: least name", x.shared(Integer.MIN_VALUE), -2);
        Checks.due("12: they count as cells", x.count(1), 3);
        Checks.dueValue("12: 0 when it is new", x, 1, 0);
        Checks.due("12: set without a running one", x.set(1, -7), 1);
        Checks.due("12: asking does not change it", x.shared(99), 1);
        Checks.goInto(x, 1, 1);
        Checks.dueValue("12: seen in a program", x, 1, -7);
        Checks.due("12: new while one is active", x.shared(50), 3);
        Checks.dueValue("12: and it is seen there", x, 3, 0);
        x.set(3, 9);
        x.leave(0);
        x.cancel(0, 1);
        Checks.dueValue("12: cancel leaves it", x, 3, 9);
    }

    private static void promise12Limit() {
        CallRows x = new CallRows(4);
        x.program(0, 1, 0);
        x.shared(7);
        for (int i = 1; i < 200; i++) {
            x.cell(1, i);
        }
        Checks.due("12: a new one beyond 200", x.shared(8), CallRows.NONE);
        Checks.due("12: and again", x.shared(8), CallRows.NONE);
        Checks.due("12: -2 before NONE", x.shared(100), -2);
        Checks.due("12: one that is there needs no room", x.shared(7), 0);
        Checks.due("12: how many at most", x.count(1), 200);
    }

    private static void refusedDeclarationsChangeNothing() {
        CallRows x = new CallRows(4);
        x.program(0, 1, 0);
        x.program(0, 1, 0);
        x.program(4, 1, 0);
        x.cell(2, 0);
        x.formal(1, 4, 4);
        x.shared(100);
        Checks.due("refused: programs", x.count(0), 1);
        Checks.due("refused: cells", x.count(1), 0);
        Checks.goInto(x, 1, 1);
        Checks.due("refused: formals", x.count(6), 0);
    }

    private static void declarationsBetweenCallAndEnter() {
        CallRows x = new CallRows(4);
        x.program(0, 1, 0);
        x.shared(0);
        Checks.due("between: call", x.call(0, 1), 1);
        Checks.due("between: program", x.program(0, 2, 0), 2);
        Checks.due("between: cell", x.cell(1, 3), 1);
        Checks.due("between: formal", x.formal(1, 0, 8), 0);
        Checks.due("between: still prepared", x.count(4), 1);
        Checks.due("between: the new formal's argument", x.actual(0, 0), 0);
        Checks.due("between: enter", x.enter(), 1);
        Checks.dueValue("between: the new cell", x, 1, 3);
    }
}
