/** Promises 8, 9, 10, 13 and 14: values, how long they stay, and what is returned. */
public final class DataTest {
    public static void main(String[] args) {
        promise8Set();
        promise8BytesOfAFormal();
        promise9Leave();
        promise10Get();
        promise10SignOfAFormal();
        visibleGlobals();
        globalsOfTheLatestCall();
        promise13State();
        dataStay();
        initialOnesAreFresh();
        recursiveOnesHaveTheirOwn();
        promise14Returned();
        Checks.end();
    }

    private static void promise8Set() {
        CallRows x = new CallRows(4);
        x.program(0, 1, 0);
        x.program(0, 2, 0);
        x.cell(1, 5);
        x.cell(2, 6);
        x.shared(0);
        Checks.due("8: external, none runs", x.set(2, 1), 1);
        Checks.due("8: a program's, none runs", x.set(0, 1), -2);
        Checks.due("8: a formal, none runs", x.set(-1, 1), -2);
        Checks.goInto(x, 1, 1);
        Checks.due("8: its own", x.set(0, Long.MIN_VALUE), 1);
        Checks.dueValue("8: its value", x, 0, Long.MIN_VALUE);
        Checks.due("8: another's", x.set(1, 1), -2);
        Checks.due("8: external", x.set(2, Long.MAX_VALUE), 1);
        Checks.dueValue("8: the external's value", x, 2, Long.MAX_VALUE);
        Checks.due("8: no cell", x.set(3, 1), -2);
        Checks.due("8: greatest cell", x.set(Integer.MAX_VALUE, 1), -2);
        Checks.due("8: no formal", x.set(-1, 1), -2);
        Checks.due("8: least formal", x.set(Integer.MIN_VALUE, 1), -2);
        Checks.goInto(x, 2, 2);
        Checks.due("8: the caller's", x.set(0, 1), -2);
        Checks.dueValue("8: its own was not set", x, 1, 6);
    }

    /** Formal size - 1, told by -size, is the lowest size bytes of the external cell 0. */
    private static CallRows runningWithAFormalOfEachSize() {
        CallRows x = new CallRows(4);
        x.program(0, 1, 0);
        x.shared(0);
        for (int size = 1; size <= 8; size++) {
            x.formal(1, 0, size);
        }
        x.call(0, 1);
        for (int size = 1; size <= 8; size++) {
            x.actual(0, 0);
        }
        x.enter();
        return x;
    }

    private static void promise8BytesOfAFormal() {
        CallRows x = runningWithAFormalOfEachSize();
        for (int size = 1; size <= 8; size++) {
            x.set(0, 0x0102030405060708L);
            x.set(-size, -1);
            long rest = size == 8 ? 0 : 0x0102030405060708L >> (8 * size) << (8 * size);
            long ones = size == 8 ? -1L : (1L << (8 * size)) - 1;
            Checks.dueValue("8: " + size + " bytes set alone", x, 0, rest + ones);
            x.set(0, -1);
            x.set(-size, 0);
            Checks.dueValue("8: " + size + " bytes cleared alone", x, 0, ~ones);
        }
    }

    private static void promise9Leave() {
        CallRows x = new CallRows(4);
        x.program(0, 1, 0);
        x.program(0, 2, 0);
        Checks.due("9: none runs", x.leave(9), -4);
        Checks.due("9: and nothing is returned", x.returned(), 0);
        x.call(0, 1);
        Checks.due("9: none runs, one is prepared", x.leave(9), -4);
        Checks.due("9: it stays prepared", x.count(4), 1);
        x.enter();
        Checks.goInto(x, 2, 2);
        Checks.due("9: the caller runs", x.leave(1), 1);
        Checks.due("9: so it is told", x.count(3), 1);
        Checks.due("9: one is active", x.count(2), 1);
        x.call(1, 2);
        Checks.due("9: none runs then", x.leave(2), 0);
        Checks.due("9: what was prepared is not any more", x.count(4), 0);
        Checks.due("9: so it can't be entered", x.enter(), -4);
        Checks.due("9: not once more", x.leave(3), -4);
        Checks.due("9: what was returned stays", x.returned(), 2);
    }

    private static void promise10Get() {
        CallRows x = new CallRows(4);
        x.program(0, 1, 0);
        x.cell(1, -5);
        x.formal(1, 0, 8);
        x.shared(0);
        int[] never = {2, 200, Integer.MAX_VALUE, -1, -2, -17, Integer.MIN_VALUE};
        for (int cell : never) {
            Checks.dueThrow("10: none runs", x, cell);
        }
        Checks.dueThrow("10: a program's cell, none runs", x, 0);
        Checks.dueValue("10: external, none runs", x, 1, 0);
        x.call(0, 1);
        x.actual(1, 0);
        Checks.dueThrow("10: prepared is not running", x, 0);
        Checks.dueThrow("10: the prepared one's formal", x, -1);
        x.enter();
        Checks.dueValue("10: its own", x, 0, -5);
        Checks.dueValue("10: external", x, 1, 0);
        Checks.dueValue("10: formal", x, -1, 0);
        int[] notThere = {2, 200, Integer.MAX_VALUE, -2, -17, Integer.MIN_VALUE};
        for (int cell : notThere) {
            Checks.dueThrow("10: not visible", x, cell);
        }
        x.leave(0);
        Checks.dueThrow("10: left", x, 0);
        Checks.dueThrow("10: the formal is left", x, -1);
    }

    private static void promise10SignOfAFormal() {
        CallRows x = runningWithAFormalOfEachSize();
        for (int size = 1; size <= 8; size++) {
            long half = 1L << (8 * size - 1);
            x.set(0, half);
            Checks.dueValue("10: the least of " + size + " bytes", x, -size, size == 8 ? half : -half);
            x.set(0, half - 1);
            Checks.dueValue("10: the greatest of " + size + " bytes", x, -size, half - 1);
            x.set(0, -1);
            Checks.dueValue("10: -1 of " + size + " bytes", x, -size, -1);
        }
    }

    private static void visibleGlobals() {
        CallRows x = new CallRows(9);
        x.program(0, 1, Checks.GLOBAL);
        x.program(1, 2, 0);
        x.program(2, 3, Checks.GLOBAL);
        x.program(0, 4, Checks.GLOBAL);
        x.program(3, 5, Checks.GLOBAL);
        for (int i = 1; i <= 5; i++) {
            x.cell(i, 10 * i);
        }
        Checks.goInto(x, 1, 1);
        Checks.goInto(x, 2, 2);
        Checks.dueThrow("10: a global one that lies in it, from outside", x, 2);
        Checks.goInto(x, 3, 3);
        Checks.dueValue("10: a global one around, at depth 2", x, 0, 10);
        Checks.dueThrow("10: one around that is not global", x, 1);
        Checks.dueValue("10: its own", x, 2, 30);
        Checks.dueThrow("10: a global one that it does not lie in", x, 3);
        Checks.dueThrow("10: a global one that lies in it", x, 4);
        Checks.due("8: set of a global one's", x.set(0, 11), 1);
        Checks.due("8: set of one that is not global", x.set(1, 11), -2);
        Checks.goInto(x, 4, 4);
        Checks.dueThrow("10: active and global, but not around", x, 0);
        x.leave(0);
        x.leave(0);
        x.leave(0);
        Checks.dueValue("8: what was set", x, 0, 11);
    }

    private static void globalsOfTheLatestCall() {
        CallRows x = new CallRows(9);
        x.program(0, 1, Checks.GLOBAL + Checks.RECURSIVE);
        x.program(1, 2, Checks.RECURSIVE);
        x.cell(1, 7);
        x.cell(2, 8);
        Checks.goInto(x, 1, 1);
        x.set(0, 10);
        Checks.goInto(x, 2, 2);
        Checks.dueValue("10: the global's only call", x, 0, 10);
        x.set(1, 20);
        Checks.goInto(x, 1, 1);
        Checks.dueValue("10: the second call is fresh", x, 0, 7);
        x.set(0, 30);
        Checks.goInto(x, 2, 2);
        Checks.dueValue("10: the global's latest call", x, 0, 30);
        Checks.dueValue("10: its own of this call", x, 1, 8);
        x.set(0, 31);
        x.leave(0);
        Checks.dueValue("10: back in the second call", x, 0, 31);
        x.leave(0);
        Checks.dueValue("10: the first call is the latest again", x, 0, 10);
        Checks.dueValue("10: its own of the earlier call", x, 1, 20);
    }

    private static void promise13State() {
        CallRows x = new CallRows(9);
        x.program(0, 1, 0);
        x.program(0, 2, Checks.INITIAL);
        x.program(0, 3, Checks.RECURSIVE);
        x.program(0, 4, Checks.INITIAL + Checks.RECURSIVE);
        x.program(0, 5, Checks.COMMON + Checks.GLOBAL);
        for (int i = 1; i <= 5; i++) {
            Checks.due("13: at first", x.state(i), 0);
            x.call(0, i);
            Checks.due("13: prepared", x.state(i), 0);
            x.enter();
            Checks.due("13: active", x.state(i), 2);
            x.leave(0);
        }
        int[] after = {1, 0, 0, 0, 1};
        for (int i = 1; i <= 5; i++) {
            Checks.due("13: left, program " + i, x.state(i), after[i - 1]);
        }
        Checks.goInto(x, 1, 1);
        Checks.goInto(x, 3, 3);
        Checks.goInto(x, 3, 3);
        Checks.due("13: active, not running", x.state(1), 2);
        x.leave(0);
        Checks.due("13: still active once", x.state(3), 2);
        x.leave(0);
        Checks.due("13: not active any more", x.state(3), 0);
        x.leave(0);
        x.cancel(0, 1);
        Checks.due("13: cancelled", x.state(1), 0);
        int[] noProgram = {0, -1, 6, 61, Integer.MAX_VALUE, Integer.MIN_VALUE};
        for (int program : noProgram) {
            Checks.due("13: no such program", x.state(program), CallRows.NONE);
        }
    }

    private static void dataStay() {
        CallRows x = new CallRows(4);
        x.program(0, 1, 0);
        x.cell(1, 5);
        Checks.goInto(x, 1, 1);
        Checks.dueValue("data: first value", x, 0, 5);
        x.set(0, 6);
        x.leave(0);
        Checks.goInto(x, 1, 1);
        Checks.dueValue("data: they stay", x, 0, 6);
        x.leave(0);
        x.call(0, 1);
        Checks.due("data: cancel of the prepared one", x.cancel(0, 1), 1);
        Checks.due("data: it stays prepared", x.enter(), 1);
        Checks.dueValue("data: fresh", x, 0, 5);
    }

    private static void initialOnesAreFresh() {
        CallRows x = new CallRows(4);
        x.program(0, 1, Checks.INITIAL);
        x.cell(1, 5);
        for (int i = 0; i < 2; i++) {
            Checks.goInto(x, 1, 1);
            Checks.dueValue("data: an initial one's", x, 0, 5);
            x.set(0, 6);
            x.leave(0);
        }
    }

    private static void recursiveOnesHaveTheirOwn() {
        CallRows x = new CallRows(9);
        x.program(0, 1, Checks.RECURSIVE);
        x.cell(1, 5);
        for (int i = 0; i < 4; i++) {
            Checks.goInto(x, 1, 1);
            Checks.dueValue("data: a recursive one's first", x, 0, 5);
            x.set(0, 100 + i);
        }
        for (int i = 3; i >= 0; i--) {
            Checks.dueValue("data: a recursive one's own", x, 0, 100 + i);
            x.leave(0);
        }
        Checks.goInto(x, 1, 1);
        Checks.dueValue("data: a recursive one's again", x, 0, 5);
    }

    private static void promise14Returned() {
        CallRows x = new CallRows(4);
        x.program(0, 1, Checks.RECURSIVE);
        Checks.due("14: at first", x.returned(), 0);
        Checks.goInto(x, 1, 1);
        Checks.goInto(x, 1, 1);
        Checks.due("14: nothing returned yet", x.returned(), 0);
        x.leave(Long.MIN_VALUE);
        Checks.due("14: least", x.returned(), Long.MIN_VALUE);
        x.leave(Long.MAX_VALUE);
        Checks.due("14: greatest", x.returned(), Long.MAX_VALUE);
        Checks.goInto(x, 1, 1);
        Checks.due("14: enter does not change it", x.returned(), Long.MAX_VALUE);
    }
}
