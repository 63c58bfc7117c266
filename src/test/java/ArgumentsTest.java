/** Promises 6 and 7: arguments, and how formals get them. */
public final class ArgumentsTest {
    private static final long MIXED = 0x1122334455667788L;

    public static void main(String[] args) {
        Sentences.run(ArgumentsTest.class);
    }

    /** Program 1 runs, with cell 0; program 2, with one formal, is prepared; cell 1 is external. */
    private static CallRows withOneFormal(int how, int size) {
        CallRows x = new CallRows(9);
        x.program(0, 1, 0);
        x.program(0, 2, 0);
        x.cell(1, MIXED);
        x.formal(2, how, size);
        x.shared(0);
        Checks.goInto(x, 1, 1);
        x.call(1, 2);
        return x;
    }

    /** Program 1 is prepared, with so many formals; cell 0 is external. */
    private static CallRows withFormals(int formals, int how) {
        CallRows x = new CallRows(9);
        x.program(0, 1, 0);
        for (int i = 0; i < formals; i++) {
            x.formal(1, how, 8);
        }
        x.shared(0);
        x.call(0, 1);
        return x;
    }

    @Sentence(in = "Promise 6", says = "One more argument of the prepared call")
    private static void actualIsOfThePreparedCall() {
        CallRows x = withFormals(2, 0);
        x.actual(0, 0);
        Checks.due("one argument", x.count(5), 1);
        x.actual(0, 1);
        Checks.due("two arguments", x.count(5), 2);
        Checks.due("it is still prepared", x.count(4), 1);
        Checks.due("enter", x.enter(), 1);
    }

    @Sentence(in = "Promise 6", says = "how = 0 by reference")
    private static void actualByReference() {
        CallRows x = withOneFormal(0, 8);
        Checks.due("actual", x.actual(0, 0), 0);
        x.set(0, 5);
        x.enter();
        Checks.dueValue("as it is now", x, -1, 5);
        x.set(-1, 6);
        x.leave(0);
        Checks.dueValue("the cell was set", x, 0, 6);
    }

    @Sentence(in = "Promise 6", says = "1 by content (a copy as it is now)")
    private static void actualByContent() {
        for (int how = 0; how <= 1; how++) {
            CallRows x = withOneFormal(how, 8);
            Checks.due("actual", x.actual(0, 1), 0);
            x.set(0, 5);
            x.enter();
            Checks.dueValue("as it was when told", x, -1, MIXED);
            x.set(-1, 6);
            Checks.dueValue("the copy was set", x, -1, 6);
            x.leave(0);
            Checks.dueValue("the cell was not", x, 0, 5);
        }
    }

    @Sentence(in = "Promise 6", says = "1 by content (a copy as it is now)")
    private static void copiesOfOneCellAreApart() {
        CallRows x = withFormals(3, 0);
        for (int i = 0; i < 3; i++) {
            x.set(0, 10 * i);
            x.actual(0, 1);
        }
        x.enter();
        for (int i = 0; i < 3; i++) {
            Checks.dueValue("copy " + i, x, -1 - i, 10 * i);
        }
        x.set(-2, 99);
        Checks.dueValue("the copy before", x, -1, 0);
        Checks.dueValue("the copy behind", x, -3, 20);
    }

    @Sentence(in = "Promise 6", says = "2 omitted (cell does not matter)")
    private static void actualOmitted() {
        int[] cells = {0, 1, 200, -1, -17, Checks.MIN, Checks.MAX};
        CallRows x = withFormals(cells.length, 2);
        for (int i = 0; i < cells.length; i++) {
            Checks.due("cell " + cells[i], x.actual(cells[i], 2), i);
        }
        Checks.due("enter", x.enter(), 1);
        for (int i = 0; i < cells.length; i++) {
            Checks.dueThrow("formal " + i, x, -1 - i);
        }
    }

    @Sentence(in = "Promise 6", says = ": which one")
    private static void actualAnswersWhichOne() {
        CallRows x = withFormals(3, 2);
        Checks.due("the first", x.actual(0, 2), 0);
        Checks.due("the second", x.actual(0, 0), 1);
        Checks.due("the third", x.actual(0, 1), 2);
        x.call(0, 1);
        Checks.due("the first of a new call", x.actual(0, 1), 0);
    }

    @Sentence(in = "Promise 6", says = "NONE when there are 16")
    private static void noneWhenThereAre16Arguments() {
        CallRows x = withFormals(16, 2);
        for (int i = 0; i < 16; i++) {
            x.set(0, i);
            Checks.due("argument " + i, x.actual(0, 1), i);
        }
        x.set(0, 99);
        for (int how = 0; how <= 2; how++) {
            Checks.due("one more, how " + how, x.actual(0, how), Checks.NONE);
        }
        Checks.due("how many", x.count(5), 16);
        Checks.due("enter", x.enter(), 1);
        for (int i = 0; i < 16; i++) {
            Checks.dueValue("formal " + i, x, -1 - i, i);
        }
    }

    @Sentence(in = "Promise 6", says = "NONE when there are 16")
    private static void sixteenArgumentsOfOneWithoutFormals() {
        CallRows x = withFormals(0, 0);
        for (int i = 0; i < 16; i++) {
            Checks.due("argument " + i, x.actual(0, 2), i);
        }
        Checks.due("one more", x.actual(0, 2), Checks.NONE);
        Checks.due("it is still prepared", x.count(4), 1);
    }

    @Sentence(in = "Promise 6", says = "-2 when how is not so, or cell is not visible")
    private static void actualWithHowNotSo() {
        CallRows x = withFormals(2, 2);
        int[] notSo = {-1, 3, 4, Checks.MIN, Checks.MAX};
        String before = Checks.seen(x);
        for (int how : notSo) {
            Checks.due("how " + how, x.actual(0, how), -2);
        }
        Checks.dueSame("how not so", x, before);
        Checks.due("the first that is so", x.actual(0, 0), 0);
    }

    @Sentence(in = "Promise 6", says = "-2 when how is not so, or cell is not visible")
    private static void actualOfACellThatIsNotVisible() {
        CallRows x = withOneFormal(2, 8);
        x.leave(0);
        x.call(0, 1);
        int[] notVisible = {0, 2, 200, -1, -17, Checks.MIN, Checks.MAX};
        String before = Checks.seen(x);
        for (int cell : notVisible) {
            for (int how = 0; how <= 1; how++) {
                Checks.due("none runs, cell " + cell + ", how " + how, x.actual(cell, how), -2);
            }
        }
        Checks.dueSame("a cell that is not visible", x, before);
        Checks.due("the external one", x.actual(1, 0), 0);
    }

    // A prepared program's own cells and formals are not visible before it runs.
    @Sentence(in = "Promise 6", says = "-2 when how is not so, or cell is not visible")
    private static void actualOfWhatThePreparedOneHas() {
        CallRows x = new CallRows(9);
        x.program(0, 1, Checks.GLOBAL);
        x.program(1, 2, 0);
        x.cell(1, 1);
        x.cell(2, 2);
        x.formal(2, 2, 8);
        Checks.goInto(x, 1, 1);
        x.call(1, 2);
        Checks.due("the running one's cell", x.actual(0, 0), 0);
        Checks.due("the prepared one's cell", x.actual(1, 0), -2);
        Checks.due("the prepared one's formal", x.actual(-1, 0), -2);
        x.enter();
        Checks.due("how many formals", x.count(6), 1);
    }

    @Sentence(in = "Promise 6", says = "-2 when how is not so, or cell is not visible")
    private static void actualOfAnOmittedFormal() {
        CallRows x = new CallRows(9);
        x.program(0, 1, Checks.RECURSIVE);
        x.formal(1, 2, 8);
        Checks.goInto(x, 1, 1);
        x.call(1, 1);
        Checks.due("by reference", x.actual(-1, 0), -2);
        Checks.due("by content", x.actual(-1, 1), -2);
        Checks.due("omitted", x.actual(-1, 2), 0);
        Checks.due("enter", x.enter(), 1);
    }

    @Sentence(in = "Promise 6", says = "-4 when none is prepared")
    private static void actualWhenNoneIsPrepared() {
        CallRows x = withFormals(1, 0);
        x.actual(0, 0);
        x.enter();
        for (int how = 0; how <= 2; how++) {
            Checks.due("entered, how " + how, x.actual(0, how), -4);
        }
        x.leave(0);
        Checks.due("left", x.actual(0, 0), -4);
        Checks.due("a new object", new CallRows(9).actual(0, 2), -4);
    }

    @Sentence(in = "Promise 7", says = "The prepared program is running: 1.")
    private static void enteredOneIsRunning() {
        CallRows x = withOneFormal(0, 8);
        x.actual(0, 0);
        Checks.due("enter", x.enter(), 1);
        Checks.due("it is running", x.count(3), 2);
        Checks.due("it is active", x.state(2), 2);
        Checks.due("its caller is active", x.state(1), 2);
        Checks.due("two are active", x.count(2), 2);
        Checks.due("nothing is prepared", x.count(4), 0);
        Checks.due("no arguments", x.count(5), 0);
        Checks.due("its formals", x.count(6), 1);
    }

    @Sentence(in = "Promise 7", says = "-4 when none is prepared")
    private static void enterWhenNoneIsPrepared() {
        Checks.due("a new object", new CallRows(9).enter(), -4);
        CallRows x = withFormals(0, 0);
        Checks.due("prepared", x.enter(), 1);
        String before = Checks.seen(x);
        Checks.due("entered", x.enter(), -4);
        Checks.dueSame("enter() of nothing", x, before);
        x.leave(0);
        Checks.due("left", x.enter(), -4);
    }

    @Sentence(in = "Promise 7", says = "-7 when there are more arguments than formals")
    private static void moreArgumentsThanFormals() {
        for (int formals = 0; formals <= 15; formals += 5) {
            for (int how = 0; how <= 2; how++) {
                CallRows x = withFormals(formals, 2);
                for (int i = 0; i < formals; i++) {
                    x.actual(0, how);
                }
                Checks.due("as many as formals", x.enter(), 1);
                x.leave(0);
                x.call(0, 1);
                for (int i = 0; i <= formals; i++) {
                    x.actual(0, how);
                }
                Checks.due("one more than " + formals + ", how " + how, x.enter(), -7);
            }
        }
    }

    @Sentence(in = "Promise 7", says = "or one is omitted or lacks whose formal is not optional")
    private static void omittedOneWhoseFormalIsNotOptional() {
        for (int how = 0; how <= 3; how++) {
            CallRows x = withOneFormal(how, 8);
            x.actual(0, 2);
            Checks.due("omitted, how " + how, x.enter(), how < 2 ? -7 : 1);
            CallRows y = withOneFormal(how, 8);
            Checks.due("lacks, how " + how, y.enter(), how < 2 ? -7 : 1);
        }
    }

    @Sentence(in = "Promise 7", says = "or one is omitted or lacks whose formal is not optional")
    private static void theLastOneWhoseFormalIsNotOptional() {
        CallRows x = withFormals(15, 2);
        x.formal(1, 0, 8);
        Checks.due("all lack", x.enter(), -7);
        x.call(0, 1);
        for (int i = 0; i < 15; i++) {
            x.actual(0, 0);
        }
        Checks.due("the last lacks", x.enter(), -7);
        x.call(0, 1);
        for (int i = 0; i < 15; i++) {
            x.actual(0, 2);
        }
        x.actual(0, 2);
        Checks.due("the last is omitted", x.enter(), -7);
        x.call(0, 1);
        for (int i = 0; i < 15; i++) {
            x.actual(0, 2);
        }
        x.actual(0, 0);
        Checks.due("all but the last are omitted", x.enter(), 1);
    }

    @Sentence(in = "Promise 7", says = "or one is omitted or lacks whose formal is not optional")
    private static void theFirstOneWhoseFormalIsNotOptional() {
        CallRows x = withFormals(1, 0);
        x.formal(1, 2, 8);
        x.actual(0, 2);
        x.actual(0, 0);
        Checks.due("the first is omitted", x.enter(), -7);
        x.call(0, 1);
        x.actual(0, 0);
        Checks.due("the second lacks, which is optional", x.enter(), 1);
    }

    @Sentence(in = "Promise 7", says = "-8 when one has less bytes than its formal "
        + "(a cell has 8, a formal its own)")
    private static void cellHas8BytesForItsFormal() {
        for (int how = 0; how <= 1; how++) {
            for (int way = 0; way <= 1; way++) {
                CallRows x = withOneFormal(how, 8);
                x.actual(0, way);
                Checks.due("a program's cell", x.enter(), 1);
                x.leave(0);
                x.call(1, 2);
                x.actual(1, way);
                Checks.due("an external cell", x.enter(), 1);
            }
        }
    }

    @Sentence(in = "Promise 7", says = "-8 when one has less bytes than its formal "
        + "(a cell has 8, a formal its own)")
    private static void formalHasItsOwnBytesForItsFormal() {
        for (int size = 1; size <= 8; size++) {
            CallRows x = new CallRows(9);
            x.program(0, 9, 0);
            x.formal(1, 0, size);
            for (int need = 1; need <= 8; need++) {
                x.program(1, need, 0);
                x.formal(1 + need, need % 4, need);
            }
            x.shared(0);
            Checks.goIntoWith(x, 9, 1, 0, 0);
            for (int need = 1; need <= 8; need++) {
                for (int way = 0; way <= 1; way++) {
                    x.call(1, need);
                    x.actual(-1, way);
                    Checks.due(size + " bytes for " + need, x.enter(), size < need ? -8 : 1);
                    if (size >= need) {
                        x.leave(0);
                    }
                }
            }
        }
    }

    // Each argument is held to its own formal, the last as the first; omitted ones have no bytes to lack.
    @Sentence(in = "Promise 7", says = "-8 when one has less bytes than its formal "
        + "(a cell has 8, a formal its own)")
    private static void eachArgumentHasTheBytesOfItsFormal() {
        CallRows x = new CallRows(9);
        x.program(0, 1, 0);
        x.formal(1, 0, 2);
        x.program(1, 2, 0);
        x.formal(2, 2, 2);
        x.formal(2, 2, 3);
        x.shared(0);
        Checks.goIntoWith(x, 1, 1, 0, 0);
        x.call(1, 2);
        x.actual(-1, 0);
        x.actual(-1, 0);
        Checks.due("the second has less", x.enter(), -8);
        x.call(1, 2);
        x.actual(-1, 0);
        x.actual(-1, 2);
        Checks.due("the second is omitted", x.enter(), 1);
        x.leave(0);
        x.call(1, 2);
        x.actual(-1, 0);
        x.actual(0, 0);
        Checks.due("each has enough", x.enter(), 1);
    }

    // A formal may have become another program's: its bytes are those of the formal that was told.
    @Sentence(in = "Promise 7", says = "-8 when one has less bytes than its formal "
        + "(a cell has 8, a formal its own)")
    private static void formalOfAWideCellHasItsOwnBytes() {
        CallRows x = new CallRows(9);
        x.program(0, 1, Checks.RECURSIVE);
        x.formal(1, 2, 8);
        x.formal(1, 2, 1);
        x.shared(0);
        x.call(0, 1);
        x.actual(0, 0);
        x.actual(0, 0);
        x.enter();
        x.call(1, 1);
        x.actual(-2, 0);
        Checks.due("1 byte for 8, of a cell of 8", x.enter(), -8);
        x.call(1, 1);
        x.actual(-1, 0);
        x.actual(-1, 0);
        Checks.due("8 bytes for 8 and for 1", x.enter(), 1);
    }

    @Sentence(in = "Promise 7", says = "(then nothing is prepared any more)")
    private static void refusedEnterLeavesNothingPrepared() {
        CallRows x = new CallRows(9);
        x.program(0, 1, 0);
        x.formal(1, 0, 1);
        x.program(1, 2, 0);
        x.formal(2, 0, 2);
        x.shared(0);
        Checks.goIntoWith(x, 1, 1, 0, 0);
        int[][] refused = {{0, 2, -7}, {0, 3, -7}, {-1, 0, -8}, {-1, 1, -8}};
        String before = Checks.seen(x);
        for (int[] one : refused) {
            x.call(1, 2);
            if (one[1] <= 2) {
                x.actual(one[0], one[1]);
            }
            Checks.due("enter", x.enter(), one[2]);
            Checks.due("after " + one[2] + " prepared", x.count(4), 0);
            Checks.due("after " + one[2] + " its arguments", x.count(5), 0);
            Checks.due("after " + one[2] + " actual()", x.actual(0, 0), -4);
            Checks.due("after " + one[2] + " enter()", x.enter(), -4);
            Checks.dueSame("after " + one[2] + " enter()", x, before);
        }
    }

    @Sentence(in = "Promise 7", says = "(then nothing is prepared any more)")
    private static void refusedEnterMakesNothingFresh() {
        CallRows x = new CallRows(9);
        x.program(0, 1, 0);
        x.cell(1, 5);
        x.formal(1, 2, 8);
        Checks.goInto(x, 1, 1);
        x.set(0, 6);
        x.leave(0);
        x.call(0, 1);
        x.actual(0, 2);
        x.actual(0, 2);
        Checks.due("enter", x.enter(), -7);
        Checks.due("it has its data", x.state(1), 1);
        Checks.goInto(x, 1, 1);
        Checks.dueValue("its data", x, 0, 6);
    }

    @Sentence(in = "Promise 7", says = "A formal by reference shares what its argument is by reference, "
        + "or that copy")
    private static void formalByReferenceSharesACell() {
        for (int how = 0; how <= 2; how += 2) {
            CallRows x = withOneFormal(how, 8);
            x.actual(0, 0);
            x.enter();
            Checks.dueThrow("the cell itself is not visible", x, 0);
            Checks.due("set", x.set(-1, -3), 1);
            Checks.dueValue("its value", x, -1, -3);
            x.leave(0);
            Checks.dueValue("the cell after", x, 0, -3);
        }
    }

    @Sentence(in = "Promise 7", says = "A formal by reference shares what its argument is by reference, "
        + "or that copy")
    private static void twoFormalsByReferenceShareOneCell() {
        CallRows x = withFormals(2, 0);
        x.actual(0, 0);
        x.actual(0, 0);
        x.enter();
        x.set(-1, 0x1ff);
        Checks.dueValue("the other formal", x, -2, 0x1ff);
        x.set(-2, 0x17f);
        Checks.dueValue("and back", x, -1, 0x17f);
        Checks.dueValue("the cell", x, 0, 0x17f);
        x.set(0, 7);
        Checks.dueValue("from the cell", x, -2, 7);
    }

    @Sentence(in = "Promise 7", says = "A formal by reference shares what its argument is by reference, "
        + "or that copy")
    private static void formalByReferenceSharesThroughFormals() {
        CallRows x = new CallRows(9);
        x.program(0, 1, Checks.RECURSIVE);
        x.formal(1, 0, 8);
        x.formal(1, 1, 8);
        x.formal(1, 0, 8);
        x.shared(0);
        x.set(0, 10);
        x.call(0, 1);
        x.actual(0, 0);
        x.actual(0, 0);
        x.actual(0, 1);
        x.enter();
        for (int deeper = 0; deeper < 2; deeper++) {
            x.call(1, 1);
            x.actual(-1, 0);
            x.actual(-2, 0);
            x.actual(-3, 0);
            x.enter();
        }
        x.set(-1, 11);
        x.set(-2, 12);
        x.set(-3, 13);
        Checks.dueValue("the cell, through three formals", x, 0, 11);
        x.leave(0);
        Checks.dueValue("a copy by value is not shared", x, -2, 10);
        Checks.dueValue("a copy by content is", x, -3, 13);
        x.leave(0);
        Checks.dueValue("the first copy by value", x, -2, 10);
        Checks.dueValue("the copy by content, where it was made", x, -3, 13);
    }

    @Sentence(in = "Promise 7", says = "A formal by reference shares what its argument is by reference, "
        + "or that copy")
    private static void formalByReferenceSharesACopy() {
        CallRows x = withOneFormal(0, 2);
        x.actual(0, 1);
        x.enter();
        Checks.dueValue("the copy's lowest bytes", x, -1, 0x7788);
        x.set(-1, 5);
        Checks.dueValue("the copy is set", x, -1, 5);
        x.leave(0);
        Checks.dueValue("the cell is not", x, 0, MIXED);
    }

    @Sentence(in = "Promise 7", says = "by value it has a copy")
    private static void formalByValueHasACopy() {
        for (int how = 1; how <= 3; how += 2) {
            CallRows x = withOneFormal(how, 1);
            x.actual(0, 0);
            x.enter();
            Checks.dueValue("the lowest byte", x, -1, (byte) 0x88);
            x.set(-1, 5);
            Checks.dueValue("the copy is set", x, -1, 5);
            x.leave(0);
            Checks.dueValue("the cell is not", x, 0, MIXED);
        }
    }

    // An argument by reference is no copy before its formal has one, at enter().
    @Sentence(in = "Promise 7", says = "by value it has a copy")
    private static void formalByValueIsCopiedWhenEntered() {
        CallRows x = withFormals(2, 1);
        x.set(0, 100);
        x.actual(0, 0);
        x.actual(0, 1);
        x.set(0, 200);
        x.enter();
        x.set(0, 300);
        Checks.dueValue("by reference, as it was at enter()", x, -1, 200);
        Checks.dueValue("by content, as it was at actual()", x, -2, 100);
        x.set(-1, 1);
        x.set(-2, 2);
        Checks.dueValue("the first copy", x, -1, 1);
        Checks.dueValue("the second copy", x, -2, 2);
        Checks.dueValue("the cell", x, 0, 300);
    }

    @Sentence(in = "Promise 7", says = "What an argument by reference stands for is settled when it is told.")
    private static void argumentOfAGlobalCellIsSettledWhenTold() {
        CallRows x = new CallRows(9);
        x.program(0, 1, Checks.RECURSIVE + Checks.GLOBAL);
        x.cell(1, 7);
        x.formal(1, 2, 8);
        x.program(1, 2, 0);
        Checks.goInto(x, 1, 1);
        x.set(0, 10);
        Checks.goInto(x, 2, 2);
        Checks.goIntoWith(x, 1, 1, 0, 0);
        Checks.dueValue("its own cell is fresh", x, 0, 7);
        Checks.dueValue("the formal is the earlier call's cell", x, -1, 10);
        x.set(-1, 11);
        x.set(0, 12);
        x.leave(0);
        Checks.dueValue("the earlier call's cell", x, 0, 11);
    }

    @Sentence(in = "Promise 7", says = "What an argument by reference stands for is settled when it is told.")
    private static void argumentOfARecursiveOnesCellIsSettledWhenTold() {
        CallRows x = new CallRows(9);
        x.program(0, 1, Checks.RECURSIVE);
        x.cell(1, 7);
        x.formal(1, 2, 8);
        Checks.goInto(x, 1, 1);
        x.set(0, 10);
        Checks.goIntoWith(x, 1, 1, 0, 0);
        Checks.dueValue("the formal is the caller's cell", x, -1, 10);
        x.set(0, 20);
        Checks.dueValue("and is not its own", x, -1, 10);
        Checks.goIntoWith(x, 1, 1, -1, 0);
        x.set(-1, 11);
        x.leave(0);
        Checks.dueValue("its own stays", x, 0, 20);
        x.leave(0);
        Checks.dueValue("the first call's cell was set", x, 0, 11);
    }
}
