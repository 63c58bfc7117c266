/** Promises 1 to 4 and 12: a new object, and what is declared in it. */
public final class DeclarationTest {
    private static final int[] NOT_TWO_PROGRAMS = {0, 3, -1, 60, 61, Checks.MIN, Checks.MAX};

    public static void main(String[] args) {
        Sentences.run(DeclarationTest.class);
    }

    private static CallRows withTwoPrograms() {
        CallRows x = new CallRows(9);
        x.program(0, 1, 0);
        x.program(0, 2, 0);
        return x;
    }

    @Sentence(in = "Promise 1", says = "No programs")
    private static void newObjectHasNothing() {
        CallRows x = new CallRows(4);
        for (int what = 0; what <= 6; what++) {
            Checks.due("count(" + what + ")", x.count(what), 0);
        }
        Checks.due("returned()", x.returned(), 0);
        Checks.due("state(0)", x.state(0), Checks.NONE);
        Checks.due("state(1)", x.state(1), Checks.NONE);
        Checks.dueThrow("cell 0", x, 0);
        Checks.dueThrow("formal 0", x, -1);
        Checks.due("call()", x.call(0, 0), -3);
        Checks.due("cancel()", x.cancel(0, 0), -3);
        Checks.due("enter()", x.enter(), -4);
        Checks.due("leave()", x.leave(0), -4);
    }

    @Sentence(in = "Promise 1", says = "No programs")
    private static void objectsAreApart() {
        CallRows x = withTwoPrograms();
        x.shared(0);
        CallRows y = new CallRows(4);
        Checks.due("the other's programs", y.count(0), 0);
        Checks.due("the other's cells", y.count(1), 0);
        Checks.due("the first's programs", x.count(0), 2);
    }

    @Sentence(in = "Promise 1", says = "at most depth active ones")
    private static void atMostDepthAreActive() {
        for (int depth = 1; depth <= 3; depth++) {
            CallRows x = new CallRows(depth);
            x.program(0, 1, Checks.RECURSIVE);
            for (int i = 0; i < depth; i++) {
                Checks.goInto(x, 1, 1);
            }
            Checks.due("one more than " + depth, x.call(1, 1), -6);
            Checks.due("how many", x.count(2), depth);
            x.leave(0);
            Checks.goInto(x, 1, 1);
            Checks.due("how many again", x.count(2), depth);
        }
    }

    @Sentence(in = "Promise 1", says = "0 .. 65536 (numbers outside are held to these).")
    private static void depthBelow0IsHeldTo0() {
        int[] low = {0, -1, -65536, Checks.MIN};
        for (int depth : low) {
            CallRows x = new CallRows(depth);
            x.program(0, 1, Checks.RECURSIVE);
            Checks.due("depth " + depth, x.call(0, 1), -6);
        }
    }

    // That many programs can't be active in 512 calls: 255 is the most that can be seen.
    @Sentence(in = "Promise 1", says = "0 .. 65536 (numbers outside are held to these).")
    private static void depthAbove65536IsHeldToIt() {
        int[] high = {255, 256, 65535, 65536, 65537, 65536 + 1024, Checks.MAX};
        for (int depth : high) {
            CallRows x = new CallRows(depth);
            x.program(0, 1, Checks.RECURSIVE);
            for (int i = 0; i < 255; i++) {
                Checks.due("call " + i + " of depth " + depth, x.call(i == 0 ? 0 : 1, 1), 1);
                Checks.due("enter " + i + " of depth " + depth, x.enter(), 1);
            }
            Checks.due("one more of depth " + depth, x.call(1, 1), depth == 255 ? -6 : 1);
        }
    }

    @Sentence(in = "Promise 2", says = "A new program: its number")
    private static void programAnswersItsNumber() {
        CallRows x = new CallRows(4);
        Checks.due("the first", x.program(0, 5, 0), 1);
        Checks.due("one within it", x.program(1, 5, 15), 2);
        Checks.due("one within that", x.program(2, 5, 3), 3);
        Checks.due("another outermost one", x.program(0, 6, 0), 4);
        Checks.due("how many", x.count(0), 4);
        Checks.due("the last is fresh", x.state(4), 0);
    }

    @Sentence(in = "Promise 2", says = "NONE when there are 60")
    private static void noneWhenThereAre60Programs() {
        CallRows x = new CallRows(4);
        for (int i = 1; i <= 60; i++) {
            Checks.due("program " + i, x.program(i - 1, i, 0), i);
        }
        Checks.due("an outermost one more", x.program(0, 99, 0), Checks.NONE);
        Checks.due("one more within the last", x.program(60, 99, 0), Checks.NONE);
        Checks.due("how many", x.count(0), 60);
        Checks.due("no state", x.state(61), Checks.NONE);
        Checks.due("it is not found", x.call(0, 99), -3);
        Checks.due("the last has a cell", x.cell(60, 5), 0);
        Checks.due("the last has a formal", x.formal(60, 0, 8), 0);
    }

    @Sentence(in = "Promise 2", says = "-2 when within, name or marks is not so")
    private static void programWithWithinNotSo() {
        CallRows x = withTwoPrograms();
        int[] notSo = {3, -1, 60, 61, 100, Checks.MIN, Checks.MAX};
        String before = Checks.seen(x);
        for (int within : notSo) {
            Checks.due("within " + within, x.program(within, 5, 0), -2);
        }
        Checks.dueSame("within not so", x, before);
        Checks.due("within the last", x.program(2, 5, 0), 3);
    }

    @Sentence(in = "Promise 2", says = "-2 when within, name or marks is not so")
    private static void programWithNameNotSo() {
        CallRows x = withTwoPrograms();
        int[] notSo = {-1, 100, 101, Checks.MIN, Checks.MAX};
        String before = Checks.seen(x);
        for (int name : notSo) {
            Checks.due("name " + name + ", outermost", x.program(0, name, 0), -2);
            Checks.due("name " + name + ", within 1", x.program(1, name, 0), -2);
        }
        Checks.dueSame("name not so", x, before);
    }

    @Sentence(in = "Promise 2", says = "-2 when within, name or marks is not so")
    private static void programWithMarksNotSo() {
        CallRows x = withTwoPrograms();
        int[] notSo = {-1, 16, 17, 31, Checks.MIN, Checks.MAX};
        String before = Checks.seen(x);
        for (int marks : notSo) {
            Checks.due("marks " + marks, x.program(0, 5, marks), -2);
        }
        Checks.dueSame("marks not so", x, before);
    }

    @Sentence(in = "Promise 2", says = "-3 when one directly within the same has this name")
    private static void programWhoseNameIsTaken() {
        CallRows x = withTwoPrograms();
        Checks.due("the name of the one that it lies in", x.program(1, 1, 0), 3);
        Checks.due("the same name elsewhere", x.program(2, 1, 0), 4);
        String before = Checks.seen(x);
        Checks.due("taken, outermost", x.program(0, 1, 0), -3);
        Checks.due("taken, other marks", x.program(0, 2, 15), -3);
        Checks.due("taken, within 1", x.program(1, 1, 0), -3);
        Checks.due("taken, within 2", x.program(2, 1, 0), -3);
        Checks.dueSame("a name that is taken", x, before);
        Checks.due("not taken within 1", x.program(1, 2, 0), 5);
    }

    @Sentence(in = "Promise 2", says = "-4 when one is active")
    private static void programWhenOneIsActive() {
        CallRows x = withTwoPrograms();
        x.call(0, 1);
        Checks.due("one is prepared", x.program(0, 3, 0), 3);
        x.enter();
        String before = Checks.seen(x);
        Checks.due("the running one is active", x.program(0, 4, 0), -4);
        Checks.due("within another", x.program(2, 4, 0), -4);
        Checks.dueSame("program() while one is active", x, before);
        x.leave(0);
        Checks.due("none is active any more", x.program(0, 4, 0), 4);
    }

    @Sentence(in = "Promise 3", says = "A program gets one more cell: its number")
    private static void cellAnswersItsNumber() {
        CallRows x = withTwoPrograms();
        Checks.due("the first", x.cell(2, 5), 0);
        Checks.due("the second", x.cell(2, 6), 1);
        Checks.due("how many", x.count(1), 2);
        Checks.goInto(x, 1, 1);
        Checks.dueThrow("not of program 1", x, 0);
        Checks.goInto(x, 2, 2);
        Checks.dueValue("of program 2", x, 0, 5);
        Checks.dueValue("of program 2", x, 1, 6);
    }

    @Sentence(in = "Promise 3", says = "NONE when there are 200")
    private static void noneWhenThereAre200Cells() {
        CallRows x = withTwoPrograms();
        for (int i = 0; i < 200; i++) {
            Checks.due("cell " + i, x.cell(1 + i % 2, i), i);
        }
        Checks.due("one more", x.cell(1, 0), Checks.NONE);
        Checks.due("one more for the other", x.cell(2, 0), Checks.NONE);
        Checks.due("how many", x.count(1), 200);
        Checks.goInto(x, 2, 2);
        Checks.dueValue("the last", x, 199, 199);
        Checks.dueThrow("there is no cell 200", x, 200);
        Checks.due("set of cell 200", x.set(200, 1), -2);
    }

    @Sentence(in = "Promise 3", says = "NONE when there are 200")
    private static void noneWhenThereAre200CellsWithExternalOnes() {
        CallRows x = withTwoPrograms();
        for (int i = 0; i < 100; i++) {
            x.shared(i);
        }
        for (int i = 100; i < 200; i++) {
            Checks.due("cell " + i, x.cell(1, i), i);
        }
        Checks.due("one more", x.cell(1, 0), Checks.NONE);
        Checks.goInto(x, 1, 1);
        Checks.dueValue("the last external one", x, 99, 0);
        Checks.dueValue("the first of the program", x, 100, 100);
        Checks.dueValue("the last of the program", x, 199, 199);
    }

    @Sentence(in = "Promise 3", says = "-2 when there is no such program")
    private static void cellOfNoProgram() {
        CallRows x = withTwoPrograms();
        String before = Checks.seen(x);
        for (int program : NOT_TWO_PROGRAMS) {
            Checks.due("cell of program " + program, x.cell(program, 5), -2);
        }
        Checks.dueSame("a cell of no program", x, before);
        Checks.due("cell of the last program", x.cell(2, 5), 0);
    }

    @Sentence(in = "Promise 3", says = "-4 when one is active")
    private static void cellWhenOneIsActive() {
        CallRows x = withTwoPrograms();
        x.call(0, 1);
        Checks.due("one is prepared", x.cell(1, 3), 0);
        x.enter();
        Checks.dueValue("its cell", x, 0, 3);
        String before = Checks.seen(x);
        Checks.due("of the running one", x.cell(1, 4), -4);
        Checks.due("of another", x.cell(2, 4), -4);
        Checks.dueSame("cell() while one is active", x, before);
        x.leave(0);
        Checks.due("none is active any more", x.cell(2, 4), 1);
    }

    @Sentence(in = "Promise 3", says = "If the program has data, the cell has its first value in them.")
    private static void cellOfAProgramThatHasData() {
        CallRows x = withTwoPrograms();
        x.cell(1, 10);
        Checks.goInto(x, 1, 1);
        x.set(0, 11);
        x.leave(0);
        Checks.due("the cell", x.cell(1, 20), 1);
        Checks.due("the program still has data", x.state(1), 1);
        Checks.goInto(x, 1, 1);
        Checks.dueValue("the data stay", x, 0, 11);
        Checks.dueValue("the new cell's first value", x, 1, 20);
        x.set(1, 21);
        x.leave(0);
        Checks.goInto(x, 1, 1);
        Checks.dueValue("the new cell's value stays", x, 1, 21);
        x.leave(0);
        x.cancel(0, 1);
        Checks.goInto(x, 1, 1);
        Checks.dueValue("fresh again", x, 0, 10);
        Checks.dueValue("the new cell is fresh again", x, 1, 20);
    }

    @Sentence(in = "Promise 4", says = "A program gets one more formal")
    private static void formalIsOfItsProgram() {
        CallRows x = withTwoPrograms();
        x.formal(1, 2, 8);
        x.formal(1, 2, 8);
        x.formal(2, 2, 8);
        Checks.goInto(x, 1, 1);
        Checks.due("formals of 1", x.count(6), 2);
        Checks.goInto(x, 2, 2);
        Checks.due("formals of 2", x.count(6), 1);
    }

    @Sentence(in = "Promise 4", says = "(how = 0 by reference, 1 by value")
    private static void formalsHow0And1() {
        for (int how = 0; how <= 3; how++) {
            CallRows x = withTwoPrograms();
            x.formal(1, how, 8);
            x.shared(0);
            Checks.goIntoWith(x, 1, 1, 0, 0);
            x.set(0, 5);
            Checks.dueValue("the formal after the cell was set, how " + how, x, -1, how % 2 == 0 ? 5 : 0);
        }
    }

    @Sentence(in = "Promise 4", says = "2 more: optional)")
    private static void formalsHow2More() {
        for (int how = 0; how <= 3; how++) {
            CallRows x = withTwoPrograms();
            x.formal(1, how, 8);
            x.call(0, 1);
            Checks.due("it lacks, how " + how, x.enter(), how >= 2 ? 1 : -7);
            x.leave(0);
            x.call(0, 1);
            x.actual(0, 2);
            Checks.due("it is omitted, how " + how, x.enter(), how >= 2 ? 1 : -7);
        }
    }

    @Sentence(in = "Promise 4", says = ": which one")
    private static void formalAnswersWhichOne() {
        CallRows x = withTwoPrograms();
        Checks.due("the first of 1", x.formal(1, 0, 1), 0);
        Checks.due("the first of 2", x.formal(2, 3, 8), 0);
        Checks.due("the second of 1", x.formal(1, 1, 2), 1);
        Checks.due("the third of 1", x.formal(1, 2, 3), 2);
    }

    @Sentence(in = "Promise 4", says = "NONE when it has 16")
    private static void noneWhenItHas16Formals() {
        CallRows x = withTwoPrograms();
        for (int i = 0; i < 16; i++) {
            Checks.due("formal " + i, x.formal(1, 2, 8), i);
        }
        Checks.due("one more", x.formal(1, 2, 8), Checks.NONE);
        Checks.due("the other's first", x.formal(2, 2, 8), 0);
        Checks.goInto(x, 1, 1);
        Checks.due("how many", x.count(6), 16);
    }

    @Sentence(in = "Promise 4", says = "-2 when there is no such program, or how or size is not so")
    private static void formalNotSo() {
        CallRows x = withTwoPrograms();
        for (int program : NOT_TWO_PROGRAMS) {
            Checks.due("program " + program, x.formal(program, 0, 8), -2);
        }
        int[] hows = {-1, 4, 5, Checks.MIN, Checks.MAX};
        for (int how : hows) {
            Checks.due("how " + how, x.formal(1, how, 8), -2);
        }
        int[] sizes = {0, 9, -1, -8, 16, Checks.MIN, Checks.MAX};
        for (int size : sizes) {
            Checks.due("size " + size, x.formal(1, 0, size), -2);
        }
        Checks.due("the first that is so", x.formal(1, 0, 1), 0);
    }

    @Sentence(in = "Promise 4", says = "-4 when one is active")
    private static void formalWhenOneIsActive() {
        CallRows x = withTwoPrograms();
        x.call(0, 1);
        Checks.due("one is prepared", x.formal(1, 2, 8), 0);
        x.enter();
        String before = Checks.seen(x);
        Checks.due("of the running one", x.formal(1, 2, 8), -4);
        Checks.due("of another", x.formal(2, 2, 8), -4);
        Checks.dueSame("formal() while one is active", x, before);
        x.leave(0);
        Checks.due("none is active any more", x.formal(2, 2, 8), 0);
    }

    @Sentence(in = "Promise 12", says = "The external cell of a name, 0 when it is new: its number")
    private static void sharedAnswersTheCellOfAName() {
        CallRows x = withTwoPrograms();
        x.cell(1, 5);
        Checks.due("new", x.shared(99), 1);
        Checks.dueValue("new", x, 1, 0);
        Checks.due("another", x.shared(0), 2);
        x.set(1, -7);
        Checks.due("the same again", x.shared(99), 1);
        Checks.dueValue("asking for it does not change it", x, 1, -7);
        Checks.due("how many", x.count(1), 3);
    }

    @Sentence(in = "Promise 12", says = "The external cell of a name, 0 when it is new: its number")
    private static void sharedWhileOneIsActive() {
        CallRows x = withTwoPrograms();
        Checks.goInto(x, 1, 1);
        Checks.due("new", x.shared(50), 0);
        Checks.dueValue("new", x, 0, 0);
        x.set(0, 9);
        Checks.goInto(x, 2, 2);
        Checks.dueValue("in another program", x, 0, 9);
        x.leave(0);
        x.leave(0);
        x.cancel(0, 1);
        Checks.dueValue("cancel leaves it", x, 0, 9);
    }

    @Sentence(in = "Promise 12", says = "NONE when there are 200 cells in all")
    private static void noneWhenThereAre200CellsInAll() {
        CallRows x = withTwoPrograms();
        x.shared(7);
        for (int i = 1; i < 199; i++) {
            x.cell(1, i);
        }
        Checks.due("the last", x.shared(8), 199);
        Checks.due("one more", x.shared(9), Checks.NONE);
        Checks.due("and again", x.shared(9), Checks.NONE);
        Checks.due("how many", x.count(1), 200);
        Checks.dueThrow("there is no cell 200", x, 200);
        Checks.dueValue("the last", x, 199, 0);
    }

    // The sentence is read as the room for a new one: one that is there needs none.
    @Sentence(in = "Promise 12", says = "NONE when there are 200 cells in all")
    private static void sharedOnesThatAreThereAreFoundWhenThereAre200() {
        CallRows x = withTwoPrograms();
        for (int i = 0; i < 100; i++) {
            x.shared(i);
        }
        for (int i = 100; i < 200; i++) {
            x.cell(2, i);
        }
        Checks.due("the first", x.shared(0), 0);
        Checks.due("the last", x.shared(99), 99);
    }

    @Sentence(in = "Promise 12", says = "-2 when name is not so")
    private static void sharedWithNameNotSo() {
        CallRows x = withTwoPrograms();
        x.shared(0);
        int[] notSo = {-1, 100, 101, 200, Checks.MIN, Checks.MAX};
        String before = Checks.seen(x);
        for (int name : notSo) {
            Checks.due("name " + name, x.shared(name), -2);
        }
        Checks.dueSame("a name that is not so", x, before);
    }
}
