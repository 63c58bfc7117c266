/** The sentences under "Terms", but for those on how a name is found and on which refusal is answered. */
public final class TermsTest {
    private static final long MIXED = 0x1122334455667788L;

    public static void main(String[] args) {
        Sentences.run(TermsTest.class);
    }

    @Sentence(in = "Terms", says = "PROGRAMS have numbers from 1 on")
    private static void programsHaveNumbersFrom1On() {
        CallRows x = new CallRows(4);
        Checks.due("the first", x.program(0, 1, 0), 1);
        Checks.due("the second", x.program(0, 2, 0), 2);
        Checks.due("state(0)", x.state(0), Checks.NONE);
        Checks.due("state(1)", x.state(1), 0);
        Checks.due("state(2)", x.state(2), 0);
        Checks.due("state(3)", x.state(3), Checks.NONE);
        Checks.due("cell of program 0", x.cell(0, 5), -2);
        Checks.due("cell of program 1", x.cell(1, 5), 0);
        Checks.due("formal of program 0", x.formal(0, 0, 8), -2);
        Checks.due("formal of program 1", x.formal(1, 0, 8), 0);
    }

    @Sentence(in = "Terms", says = "a NAME 0 .. 99")
    private static void namesAre0To99() {
        CallRows x = new CallRows(4);
        int[] notSo = {-1, 100, Checks.MIN, Checks.MAX};
        for (int name : notSo) {
            Checks.due("program() of name " + name, x.program(0, name, 0), -2);
            Checks.due("call() of name " + name, x.call(0, name), -2);
            Checks.due("cancel() of name " + name, x.cancel(0, name), -2);
        }
        Checks.due("program() of name 0", x.program(0, 0, 0), 1);
        Checks.due("program() of name 99", x.program(0, 99, 0), 2);
        Checks.due("call() of name 0", x.call(0, 0), 1);
        Checks.due("call() of name 99", x.call(0, 99), 2);
        Checks.due("cancel() of name 0", x.cancel(0, 0), 0);
        Checks.due("cancel() of name 99", x.cancel(0, 99), 0);
    }

    @Sentence(in = "Terms", says = "MARKS 0 .. 15")
    private static void marksAre0To15() {
        CallRows x = new CallRows(4);
        int[] notSo = {-1, 16, 32, Checks.MIN, Checks.MAX};
        for (int marks : notSo) {
            Checks.due("marks " + marks, x.program(0, 50, marks), -2);
        }
        for (int marks = 0; marks <= 15; marks++) {
            Checks.due("marks " + marks, x.program(0, marks, marks), marks + 1);
        }
    }

    @Sentence(in = "Terms", says = "and lie DIRECTLY within another one (0: in none, they are OUTERMOST)")
    private static void thoseWithin0AreOutermost() {
        CallRows x = new CallRows(4);
        Checks.due("an outermost one", x.program(0, 1, 0), 1);
        Checks.due("one within it", x.program(1, 2, 0), 2);
        Checks.due("one within that", x.program(2, 3, 0), 3);
        Checks.due("from none, the outermost one", x.call(0, 1), 1);
        Checks.due("from none, one within it", x.call(0, 2), -3);
        Checks.due("from none, one within that", x.call(0, 3), -3);
        Checks.goInto(x, 1, 1);
        Checks.due("from it, one that lies in it, but not directly", x.call(1, 3), -3);
        Checks.due("from it, one directly within it", x.call(1, 2), 2);
    }

    @Sentence(in = "Terms", says = "marks: 1 INITIAL")
    private static void mark1IsInitial() {
        for (int marks = 0; marks <= 15; marks++) {
            boolean initial = marks % 2 == 1;
            boolean recursive = (marks & Checks.RECURSIVE) != 0;
            CallRows x = new CallRows(4);
            x.program(0, 1, marks);
            x.cell(1, 5);
            Checks.goInto(x, 1, 1);
            x.set(0, 6);
            x.leave(0);
            Checks.goInto(x, 1, 1);
            Checks.dueValue("second call, marks " + marks, x, 0, initial || recursive ? 5 : 6);
        }
    }

    @Sentence(in = "Terms", says = "2 COMMON")
    private static void mark2IsCommon() {
        for (int marks = 0; marks <= 15; marks++) {
            CallRows x = new CallRows(4);
            x.program(0, 1, 0);
            x.program(1, 2, 0);
            x.program(1, 3, marks);
            Checks.goInto(x, 1, 1);
            Checks.goInto(x, 2, 2);
            Checks.due("the one beside, marks " + marks, x.call(2, 3), marks / 2 % 2 == 1 ? 3 : -3);
        }
    }

    @Sentence(in = "Terms", says = "4 RECURSIVE")
    private static void mark4IsRecursive() {
        for (int marks = 0; marks <= 15; marks++) {
            CallRows x = new CallRows(4);
            x.program(0, 1, marks);
            Checks.goInto(x, 1, 1);
            Checks.due("itself, marks " + marks, x.call(1, 1), marks / 4 % 2 == 1 ? 1 : -5);
        }
    }

    @Sentence(in = "Terms", says = "8 GLOBAL")
    private static void mark8IsGlobal() {
        for (int marks = 0; marks <= 15; marks++) {
            CallRows x = new CallRows(4);
            x.program(0, 1, marks);
            x.program(1, 2, 0);
            x.cell(1, 7);
            Checks.goInto(x, 1, 1);
            Checks.goInto(x, 2, 2);
            Checks.due("set of the outer one's cell, marks " + marks, x.set(0, 8), marks / 8 == 1 ? 1 : -2);
        }
    }

    @Sentence(in = "Terms", says = "They have CELLS of 8 bytes with a first value")
    private static void cellsHave8BytesAndAFirstValue() {
        long[] values = {Long.MIN_VALUE, Long.MAX_VALUE, -1, 0, MIXED, 1L << 32, -(1L << 31) - 1};
        CallRows x = new CallRows(4);
        x.program(0, 1, 0);
        for (int i = 0; i < values.length; i++) {
            x.cell(1, values[i]);
        }
        Checks.goInto(x, 1, 1);
        for (int i = 0; i < values.length; i++) {
            Checks.dueValue("first value", x, i, values[i]);
        }
        for (long v : values) {
            x.set(3, v);
            Checks.dueValue("all bytes are set", x, 3, v);
        }
        Checks.dueValue("the cell before", x, 2, -1);
        Checks.dueValue("the cell behind", x, 4, MIXED);
    }

    @Sentence(in = "Terms", says = "and FORMALS 0, 1, .. of 1 .. 8 bytes")
    private static void formalsHave1To8Bytes() {
        CallRows x = new CallRows(4);
        x.program(0, 1, 0);
        x.program(0, 2, 0);
        int[] notSo = {0, 9, -1, -8, Checks.MIN, Checks.MAX};
        for (int size : notSo) {
            Checks.due("size " + size, x.formal(1, 0, size), -2);
        }
        for (int size = 1; size <= 8; size++) {
            Checks.due("size " + size, x.formal(1, 0, size), size - 1);
        }
        Checks.due("the other program's first", x.formal(2, 0, 8), 0);
    }

    @Sentence(in = "Terms", says = "by reference or by value, optional or not")
    private static void formalsAreByReferenceOrByValueOptionalOrNot() {
        for (int how = 0; how <= 3; how++) {
            CallRows x = new CallRows(4);
            x.program(0, 1, 0);
            x.formal(1, how, 8);
            x.shared(0);
            x.call(0, 1);
            Checks.due("without an argument, how " + how, x.enter(), how < 2 ? -7 : 1);
            x.leave(0);
            Checks.goIntoWith(x, 1, 1, 0, 0);
            x.set(-1, 5);
            Checks.dueValue("what was told, how " + how, x, 0, how % 2 == 0 ? 5 : 0);
        }
    }

    @Sentence(in = "Terms", says = "Cells have numbers from 0 on, through all programs")
    private static void cellsHaveNumbersFrom0OnThroughAllPrograms() {
        CallRows x = new CallRows(4);
        x.program(0, 1, 0);
        x.program(0, 2, 0);
        Checks.due("the first", x.cell(1, 10), 0);
        Checks.due("another program's first", x.cell(2, 20), 1);
        Checks.due("the first program's second", x.cell(1, 30), 2);
        Checks.goInto(x, 1, 1);
        Checks.dueValue("its first", x, 0, 10);
        Checks.dueThrow("the other's", x, 1);
        Checks.dueValue("its second", x, 2, 30);
        Checks.goInto(x, 2, 2);
        Checks.dueThrow("the other's first", x, 0);
        Checks.dueValue("its only", x, 1, 20);
        Checks.dueThrow("the other's second", x, 2);
    }

    @Sentence(in = "Terms", says = "EXTERNAL cells, which have names 0 .. 99, likewise")
    private static void externalCellsHaveNumbersFrom0On() {
        CallRows x = new CallRows(4);
        x.program(0, 1, 0);
        int[] notSo = {-1, 100, Checks.MIN, Checks.MAX};
        for (int name : notSo) {
            Checks.due("name " + name, x.shared(name), -2);
        }
        Checks.due("the first, name 99", x.shared(99), 0);
        Checks.due("a program's", x.cell(1, 5), 1);
        Checks.due("the next, name 0", x.shared(0), 2);
        Checks.due("a program's behind it", x.cell(1, 6), 3);
        Checks.goInto(x, 1, 1);
        x.set(0, 70);
        x.set(2, 72);
        Checks.dueValue("name 99", x, 0, 70);
        Checks.dueValue("the program's first", x, 1, 5);
        Checks.dueValue("name 0", x, 2, 72);
        Checks.dueValue("the program's second", x, 3, 6);
    }

    @Sentence(in = "Terms", says = "A program's DATA are its cells' values.")
    private static void dataAreTheCellsValues() {
        CallRows x = new CallRows(4);
        x.program(0, 1, 0);
        x.program(0, 2, 0);
        x.cell(1, 10);
        x.cell(2, 20);
        x.cell(1, 30);
        Checks.goInto(x, 1, 1);
        x.set(0, 11);
        x.set(2, 31);
        Checks.goInto(x, 2, 2);
        Checks.dueValue("the other's are its own", x, 1, 20);
        x.set(1, 21);
        x.leave(0);
        x.leave(0);
        Checks.goInto(x, 2, 2);
        Checks.dueValue("the other's stay", x, 1, 21);
        Checks.goInto(x, 1, 1);
        Checks.dueValue("the first stays", x, 0, 11);
        Checks.dueValue("the second stays", x, 2, 31);
    }

    @Sentence(in = "Terms", says = "It is FRESH (first values) at first")
    private static void freshAtFirst() {
        CallRows x = new CallRows(4);
        x.program(0, 1, 0);
        x.cell(1, 5);
        x.formal(1, 2, 8);
        Checks.due("at first", x.state(1), 0);
        x.call(0, 1);
        Checks.due("prepared", x.state(1), 0);
        x.actual(0, 2);
        x.actual(0, 2);
        Checks.due("one argument too many", x.enter(), -7);
        Checks.due("after a refused enter", x.state(1), 0);
        Checks.goInto(x, 1, 1);
        Checks.dueValue("first value", x, 0, 5);
    }

    @Sentence(in = "Terms", says = "when it is cancelled")
    private static void freshWhenCancelled() {
        CallRows x = new CallRows(4);
        x.program(0, 1, 0);
        x.cell(1, 5);
        x.cell(1, Long.MIN_VALUE);
        Checks.goInto(x, 1, 1);
        x.set(0, 6);
        x.set(1, 7);
        x.leave(0);
        Checks.due("it has data", x.state(1), 1);
        Checks.due("cancel", x.cancel(0, 1), 1);
        Checks.due("it is fresh", x.state(1), 0);
        Checks.goInto(x, 1, 1);
        Checks.dueValue("first value", x, 0, 5);
        Checks.dueValue("the other first value", x, 1, Long.MIN_VALUE);
    }

    @Sentence(in = "Terms", says = "and at each call of an initial or recursive one")
    private static void freshAtEachCallOfAnInitialOne() {
        CallRows x = new CallRows(4);
        x.program(0, 1, Checks.INITIAL);
        x.cell(1, 5);
        x.cell(1, -6);
        for (int i = 0; i < 3; i++) {
            Checks.goInto(x, 1, 1);
            Checks.dueValue("call " + i, x, 0, 5);
            Checks.dueValue("call " + i, x, 1, -6);
            x.set(0, 100);
            x.set(1, 101);
            x.leave(0);
        }
    }

    @Sentence(in = "Terms", says = "and at each call of an initial or recursive one")
    private static void freshAtEachCallOfARecursiveOne() {
        CallRows x = new CallRows(9);
        x.program(0, 1, Checks.RECURSIVE);
        x.cell(1, 5);
        for (int i = 0; i < 3; i++) {
            Checks.goInto(x, 1, 1);
            Checks.dueValue("call " + i, x, 0, 5);
            x.set(0, 100);
            Checks.goInto(x, 1, 1);
            Checks.dueValue("the one within call " + i, x, 0, 5);
            x.set(0, 101);
            x.leave(0);
            x.leave(0);
        }
    }

    @Sentence(in = "Terms", says = "a recursive one has data of its own for each call")
    private static void recursiveOneHasDataOfItsOwnForEachCall() {
        CallRows x = new CallRows(9);
        x.program(0, 1, Checks.RECURSIVE);
        x.cell(1, 5);
        x.cell(1, 50);
        for (int i = 0; i < 4; i++) {
            Checks.goInto(x, 1, 1);
            x.set(0, 100 + i);
        }
        for (int i = 3; i >= 0; i--) {
            Checks.dueValue("call " + i, x, 0, 100 + i);
            Checks.dueValue("not set in call " + i, x, 1, 50);
            x.leave(0);
        }
    }

    @Sentence(in = "Terms", says = "a recursive one has data of its own for each call")
    private static void initialAndRecursiveOneHasDataOfItsOwnToo() {
        CallRows x = new CallRows(9);
        x.program(0, 1, Checks.RECURSIVE + Checks.INITIAL);
        x.program(0, 2, 0);
        x.cell(1, 5);
        Checks.goInto(x, 1, 1);
        x.set(0, 6);
        Checks.goInto(x, 2, 2);
        Checks.goInto(x, 1, 1);
        Checks.dueValue("the second call", x, 0, 5);
        x.set(0, 7);
        x.leave(0);
        x.leave(0);
        Checks.dueValue("the first call", x, 0, 6);
    }

    @Sentence(in = "Terms", says = "Formals are of a call.")
    private static void formalsAreOfACall() {
        CallRows x = new CallRows(9);
        x.program(0, 1, Checks.RECURSIVE);
        x.formal(1, 3, 8);
        x.shared(0);
        x.set(0, 10);
        Checks.goIntoWith(x, 1, 1, 0, 0);
        x.set(-1, 11);
        Checks.goIntoWith(x, 1, 1, 0, 0);
        Checks.dueValue("the second call's", x, -1, 10);
        x.set(-1, 12);
        Checks.goInto(x, 1, 1);
        Checks.dueThrow("the third call's is omitted", x, -1);
        x.leave(0);
        Checks.dueValue("the second call's again", x, -1, 12);
        x.leave(0);
        Checks.dueValue("the first call's again", x, -1, 11);
        x.leave(0);
        Checks.dueThrow("none is left", x, -1);
        Checks.goInto(x, 1, 1);
        Checks.dueThrow("a new call's is omitted", x, -1);
    }

    @Sentence(in = "Terms", says = "The RUNNING program is the one entered latest that was not left")
    private static void runningIsTheOneEnteredLatestThatWasNotLeft() {
        CallRows x = new CallRows(9);
        x.program(0, 1, 0);
        x.program(0, 2, Checks.RECURSIVE);
        x.call(0, 1);
        Checks.due("prepared is not running", x.count(3), 0);
        x.enter();
        Checks.due("entered", x.count(3), 1);
        Checks.goInto(x, 2, 2);
        Checks.goInto(x, 2, 2);
        Checks.due("entered latest", x.count(3), 2);
        x.leave(0);
        Checks.due("the one before it", x.count(3), 2);
        x.leave(0);
        Checks.due("the one before that", x.count(3), 1);
        x.leave(0);
        Checks.due("none", x.count(3), 0);
    }

    @Sentence(in = "Terms", says = "all that were entered and not left are ACTIVE")
    private static void activeAreAllThatWereEnteredAndNotLeft() {
        CallRows x = new CallRows(9);
        for (int i = 1; i <= 3; i++) {
            x.program(0, i, 0);
        }
        for (int i = 1; i <= 3; i++) {
            x.call(x.count(3), i);
            Checks.due("prepared, program " + i, x.state(i), 0);
            x.enter();
            for (int j = 1; j <= 3; j++) {
                Checks.due("after enter " + i + ", program " + j, x.state(j), j <= i ? 2 : 0);
            }
            Checks.due("how many after enter " + i, x.count(2), i);
        }
        for (int i = 3; i >= 1; i--) {
            x.leave(0);
            for (int j = 1; j <= 3; j++) {
                Checks.due("after leave " + i + ", program " + j, x.state(j), j < i ? 2 : 1);
            }
            Checks.due("how many after leave " + i, x.count(2), i - 1);
        }
    }

    @Sentence(in = "Terms", says = "VISIBLE in it are: its cells (of this call)")
    private static void visibleAreItsCells() {
        CallRows x = new CallRows(9);
        x.program(0, 1, 0);
        x.program(0, 2, 0);
        x.program(1, 3, 0);
        for (int i = 1; i <= 3; i++) {
            x.cell(i, 10 * i);
        }
        Checks.goInto(x, 1, 1);
        Checks.dueValue("its own", x, 0, 10);
        Checks.dueThrow("another's", x, 1);
        Checks.dueThrow("one's that lies in it", x, 2);
        Checks.dueThrow("behind the last", x, 3);
        Checks.dueThrow("the greatest number", x, Checks.MAX);
        Checks.goInto(x, 2, 2);
        Checks.dueThrow("its caller's", x, 0);
        Checks.dueValue("its own", x, 1, 20);
    }

    @Sentence(in = "Terms", says = "VISIBLE in it are: its cells (of this call)")
    private static void visibleAreItsCellsOfThisCall() {
        CallRows x = new CallRows(9);
        x.program(0, 1, Checks.RECURSIVE);
        x.cell(1, 5);
        Checks.goInto(x, 1, 1);
        x.set(0, 6);
        Checks.goInto(x, 1, 1);
        Checks.dueValue("the inner call's", x, 0, 5);
        x.set(0, 7);
        x.leave(0);
        Checks.dueValue("the outer call's", x, 0, 6);
    }

    @Sentence(in = "Terms", says = "its formals (formal i told by -1 - i) that are not omitted")
    private static void visibleAreItsFormals() {
        CallRows x = new CallRows(9);
        x.program(0, 1, 0);
        x.program(0, 2, 0);
        for (int i = 0; i < 16; i++) {
            x.formal(1, 1, 8);
        }
        x.formal(2, 3, 8);
        x.shared(0);
        x.call(0, 1);
        for (int i = 0; i < 16; i++) {
            x.set(0, 100 + i);
            x.actual(0, 1);
        }
        x.enter();
        for (int i = 0; i < 16; i++) {
            Checks.dueValue("formal " + i, x, -1 - i, 100 + i);
        }
        Checks.dueThrow("there is no formal 16", x, -17);
        Checks.dueThrow("far below", x, -1000);
        Checks.dueThrow("the least number", x, Checks.MIN);
        Checks.goInto(x, 2, 2);
        Checks.dueThrow("omitted", x, -1);
        Checks.dueThrow("the caller's formal", x, -2);
    }

    @Sentence(in = "Terms", says = "its formals (formal i told by -1 - i) that are not omitted")
    private static void omittedFormalsAreNotVisible() {
        CallRows x = new CallRows(9);
        x.program(0, 1, 0);
        for (int i = 0; i < 4; i++) {
            x.formal(1, 2 + i % 2, 8);
        }
        x.shared(0);
        x.call(0, 1);
        x.actual(0, 2);
        x.actual(0, 2);
        x.actual(0, 0);
        x.enter();
        int[] omitted = {-1, -2, -4};
        for (int cell : omitted) {
            Checks.dueThrow("omitted or lacking", x, cell);
            Checks.due("set(" + cell + ")", x.set(cell, 1), -2);
        }
        Checks.dueValue("told", x, -3, 0);
    }

    @Sentence(in = "Terms", says = "external cells,")
    private static void visibleAreExternalCells() {
        CallRows x = new CallRows(9);
        x.program(0, 1, 0);
        x.program(1, 2, 0);
        x.shared(0);
        Checks.goInto(x, 1, 1);
        Checks.dueValue("in an outer one", x, 0, 0);
        Checks.due("set in an outer one", x.set(0, 5), 1);
        Checks.goInto(x, 2, 2);
        Checks.dueValue("in an inner one", x, 0, 5);
        Checks.dueThrow("not there yet", x, 1);
        Checks.due("a new one", x.shared(1), 1);
        Checks.dueValue("a new one", x, 1, 0);
    }

    @Sentence(in = "Terms", says = "and cells of global programs that it lies in, at any depth")
    private static void visibleAreCellsOfGlobalProgramsThatItLiesIn() {
        CallRows x = new CallRows(9);
        x.program(0, 1, Checks.GLOBAL);
        x.program(1, 2, 0);
        x.program(2, 3, Checks.GLOBAL);
        x.program(0, 4, Checks.GLOBAL);
        x.program(3, 5, Checks.GLOBAL);
        x.program(1, 6, Checks.GLOBAL);
        for (int i = 1; i <= 6; i++) {
            x.cell(i, 10 * i);
        }
        Checks.goInto(x, 1, 1);
        Checks.goInto(x, 2, 2);
        Checks.dueValue("a global one around", x, 0, 10);
        Checks.dueThrow("a global one that lies in it", x, 2);
        Checks.goInto(x, 3, 3);
        Checks.dueValue("a global one around, not directly", x, 0, 10);
        Checks.dueThrow("one around that is not global", x, 1);
        Checks.dueValue("its own", x, 2, 30);
        Checks.dueThrow("a global one that it does not lie in", x, 3);
        Checks.dueThrow("a global one that lies in it", x, 4);
        Checks.dueThrow("a global one beside one around", x, 5);
        Checks.goInto(x, 4, 4);
        Checks.dueThrow("active and global, but not around", x, 0);
    }

    @Sentence(in = "Terms", says = "and cells of global programs that it lies in, at any depth")
    private static void cellsOfAGlobalProgramAreSeenFromTheDeepestOne() {
        CallRows x = new CallRows(60);
        x.program(0, 0, Checks.GLOBAL);
        x.cell(1, 5);
        for (int i = 1; i < 60; i++) {
            x.program(i, i, 0);
        }
        for (int i = 0; i < 60; i++) {
            Checks.goInto(x, i, i + 1);
        }
        Checks.due("set from 59 levels within", x.set(0, 6), 1);
        Checks.dueValue("59 levels within", x, 0, 6);
    }

    // "Else the data they have" can't be reached: a program runs only while all that it lies in are
    // active, as a name is found from within them alone. So this looks at one that kept its data.
    @Sentence(in = "Terms", says = "(of their latest active call; else the data they have)")
    private static void cellsOfAGlobalProgramAreOfItsLatestActiveCall() {
        CallRows x = new CallRows(9);
        x.program(0, 1, Checks.GLOBAL + Checks.RECURSIVE);
        x.program(1, 2, Checks.RECURSIVE);
        x.cell(1, 7);
        Checks.goInto(x, 1, 1);
        x.set(0, 10);
        Checks.goInto(x, 2, 2);
        Checks.dueValue("its only call", x, 0, 10);
        Checks.goInto(x, 1, 1);
        x.set(0, 30);
        Checks.goInto(x, 2, 2);
        Checks.dueValue("the latest of two", x, 0, 30);
        Checks.due("set in the latest", x.set(0, 31), 1);
        x.leave(0);
        Checks.dueValue("what was set", x, 0, 31);
        x.leave(0);
        Checks.dueValue("the first is the latest active one again", x, 0, 10);
    }

    @Sentence(in = "Terms", says = "(of their latest active call; else the data they have)")
    private static void cellsOfAGlobalProgramAreTheDataItHas() {
        CallRows x = new CallRows(9);
        x.program(0, 1, Checks.GLOBAL);
        x.program(1, 2, 0);
        x.cell(1, 7);
        Checks.goInto(x, 1, 1);
        x.set(0, 8);
        x.leave(0);
        Checks.goInto(x, 1, 1);
        Checks.goInto(x, 2, 2);
        Checks.dueValue("data of an earlier call", x, 0, 8);
    }

    @Sentence(in = "Terms", says = "Without a running one: external cells.")
    private static void withoutARunningOneExternalCellsAreVisible() {
        CallRows x = new CallRows(9);
        x.program(0, 1, Checks.GLOBAL);
        x.cell(1, 5);
        x.shared(0);
        x.formal(1, 0, 8);
        Checks.dueThrow("a global program's", x, 0);
        Checks.dueValue("an external one", x, 1, 0);
        Checks.dueThrow("a formal", x, -1);
        Checks.dueThrow("behind the last", x, 2);
        x.call(0, 1);
        Checks.due("an argument", x.actual(1, 0), 0);
        Checks.dueThrow("the prepared one's cell", x, 0);
        Checks.dueThrow("the prepared one's formal", x, -1);
        x.enter();
        x.leave(0);
        Checks.dueThrow("the left one's cell", x, 0);
        Checks.dueThrow("the left one's formal", x, -1);
        Checks.dueValue("an external one still", x, 1, 0);
    }

    /** Formal size - 1, told by -size, is the lowest size bytes of the external cell 0. */
    private static CallRows runningWithAFormalOfEachSize(int formalHow, int actualHow) {
        CallRows x = new CallRows(4);
        x.program(0, 1, 0);
        x.shared(0);
        x.set(0, MIXED);
        for (int size = 1; size <= 8; size++) {
            x.formal(1, formalHow, size);
        }
        x.call(0, 1);
        for (int size = 1; size <= 8; size++) {
            x.actual(0, actualHow);
        }
        x.enter();
        return x;
    }

    private static long lowest(int bytes) {
        return bytes == 8 ? -1L : (1L << (8 * bytes)) - 1;
    }

    @Sentence(in = "Terms", says = "A formal of n bytes is the lowest n bytes of what it shares, or of a copy")
    private static void formalIsTheLowestBytes() {
        long[] signed = {(byte) 0x88, 0x7788, 0x667788, 0x55667788, 0x4455667788L, 0x334455667788L,
            0x22334455667788L, MIXED};
        for (int formalHow = 0; formalHow <= 3; formalHow++) {
            for (int actualHow = 0; actualHow <= 1; actualHow++) {
                CallRows x = runningWithAFormalOfEachSize(formalHow, actualHow);
                for (int size = 1; size <= 8; size++) {
                    Checks.dueValue("how " + formalHow + " and " + actualHow, x, -size, signed[size - 1]);
                }
            }
        }
    }

    @Sentence(in = "Terms", says = "A formal of n bytes is the lowest n bytes of what it shares, or of a copy")
    private static void formalOfAFormalIsItsLowestBytes() {
        CallRows x = new CallRows(9);
        x.program(0, 1, 0);
        x.formal(1, 0, 4);
        x.program(0, 2, 0);
        x.formal(2, 0, 2);
        x.shared(0);
        x.set(0, MIXED);
        Checks.goIntoWith(x, 1, 1, 0, 0);
        Checks.goIntoWith(x, 2, 2, -1, 0);
        Checks.dueValue("2 of 4 of 8 bytes", x, -1, 0x7788);
        x.set(-1, 0);
        Checks.dueValue("the cell", x, 0, 0x1122334455660000L);
    }

    @Sentence(in = "Terms", says = "its value is they with their sign")
    private static void valueIsTheBytesWithTheirSign() {
        CallRows x = runningWithAFormalOfEachSize(0, 0);
        for (int size = 1; size <= 8; size++) {
            long half = 1L << (8 * size - 1);
            x.set(0, half);
            Checks.dueValue("the least of " + size + " bytes", x, -size, size == 8 ? half : -half);
            x.set(0, half - 1);
            Checks.dueValue("the greatest of " + size + " bytes", x, -size, half - 1);
            x.set(0, -1);
            Checks.dueValue("all bits of " + size + " bytes", x, -size, -1);
            x.set(0, ~lowest(size));
            Checks.dueValue("no bit of " + size + " bytes", x, -size, 0);
        }
    }

    @Sentence(in = "Terms", says = "its value is they with their sign")
    private static void valueThatIsTooLargeWrapsAround() {
        for (int actualHow = 0; actualHow <= 1; actualHow++) {
            CallRows x = runningWithAFormalOfEachSize(1, actualHow);
            for (int size = 1; size <= 7; size++) {
                long half = 1L << (8 * size - 1);
                x.set(-size, half);
                Checks.dueValue("one more than the greatest", x, -size, -half);
                x.set(-size, -half - 1);
                Checks.dueValue("one less than the least", x, -size, half - 1);
                x.set(-size, 2 * half + 3);
                Checks.dueValue("once around", x, -size, 3);
            }
        }
    }

    @Sentence(in = "Terms", says = "setting it changes these bytes alone")
    private static void settingAFormalChangesItsBytesAlone() {
        CallRows x = runningWithAFormalOfEachSize(0, 0);
        for (int size = 1; size <= 8; size++) {
            x.set(0, MIXED);
            x.set(-size, -1);
            Checks.dueValue(size + " bytes set", x, 0, MIXED | lowest(size));
            x.set(0, MIXED);
            x.set(-size, 0);
            Checks.dueValue(size + " bytes cleared", x, 0, MIXED & ~lowest(size));
            x.set(0, 0);
            x.set(-size, Long.MIN_VALUE + 5);
            Checks.dueValue(size + " bytes of a large value", x, 0, size == 8 ? Long.MIN_VALUE + 5 : 5);
        }
    }

    @Sentence(in = "Terms", says = "setting it changes these bytes alone")
    private static void settingAFormalOfACopyChangesItsBytesAlone() {
        for (int size = 1; size <= 8; size++) {
            CallRows x = new CallRows(9);
            x.program(0, 1, 0);
            x.formal(1, 0, 8);
            x.program(0, 2, 0);
            x.formal(2, 0, size);
            x.shared(0);
            x.set(0, MIXED);
            Checks.goIntoWith(x, 1, 1, 0, 1);
            Checks.goIntoWith(x, 2, 2, -1, 0);
            x.set(-1, -1);
            x.leave(0);
            Checks.dueValue(size + " bytes of the copy", x, -1, MIXED | lowest(size));
            Checks.dueValue("the cell itself", x, 0, MIXED);
        }
    }
}
