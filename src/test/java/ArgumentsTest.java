/** Promises 6 and 7: arguments, and how formals get them. */
public final class ArgumentsTest {
    public static void main(String[] args) {
        promise6Actual();
        promise6Limit();
        promise6Visible();
        promise7Refusals();
        promise7OmittedAndLacking();
        promise7Bytes();
        promise7Order();
        sharedByReference();
        copiedByContent();
        copiedByValue();
        copiesAreMadeInTheirTime();
        formalsPassedOn();
        twoFormalsOfOneCell();
        settledWhenTold();
        argumentsOfFormerCallsAreGone();
        Checks.end();
    }

    private static void promise6Actual() {
        CallRows x = new CallRows(4);
        x.program(0, 1, 0);
        x.shared(0);
        Checks.due("6: none is prepared", x.actual(0, 0), -4);
        Checks.due("6: -4 before -2", x.actual(5, 7), -4);
        x.call(0, 1);
        Checks.due("6: by reference", x.actual(0, 0), 0);
        Checks.due("6: by content", x.actual(0, 1), 1);
        Checks.due("6: omitted", x.actual(Integer.MIN_VALUE, 2), 2);
        Checks.due("6: omitted too", x.actual(Integer.MAX_VALUE, 2), 3);
        Checks.due("6: how below 0", x.actual(0, -1), -2);
        Checks.due("6: how 3", x.actual(0, 3), -2);
        Checks.due("6: no such cell", x.actual(1, 0), -2);
        Checks.due("6: no such cell by content", x.actual(1, 1), -2);
        Checks.due("6: no such formal", x.actual(-1, 0), -2);
        Checks.due("6: how many", x.count(5), 4);
        Checks.due("6: refusals leave it prepared", x.count(4), 1);
    }

    private static void promise6Limit() {
        CallRows x = new CallRows(4);
        x.program(0, 1, 0);
        x.shared(0);
        for (int i = 0; i < 16; i++) {
            x.formal(1, 0, 8);
        }
        x.call(0, 1);
        for (int i = 0; i < 16; i++) {
            Checks.due("6: argument " + i, x.actual(0, i % 2), i);
        }
        Checks.due("6: argument 16", x.actual(0, 0), CallRows.NONE);
        Checks.due("6: argument 16, omitted", x.actual(0, 2), CallRows.NONE);
        Checks.due("6: -2 before NONE", x.actual(0, 3), -2);
        Checks.due("6: not visible before NONE", x.actual(1, 0), -2);
        Checks.due("6: how many at most", x.count(5), 16);
        Checks.due("6: enter with 16", x.enter(), 1);
        x.set(-16, 3);
        x.set(-15, 4);
        Checks.dueValue("6: the last is a copy", x, -16, 3);
        Checks.dueValue("6: the one before is shared", x, 0, 4);
        Checks.dueThrow("6: no formal 16", x, -17);
    }

    private static void promise6Visible() {
        CallRows x = new CallRows(4);
        x.program(0, 1, 0);
        x.program(1, 2, 0);
        x.cell(1, 1);
        x.cell(2, 2);
        x.formal(2, 2, 8);
        x.call(0, 1);
        Checks.due("6: the called one's cell is not visible", x.actual(0, 0), -2);
        x.enter();
        x.call(1, 2);
        Checks.due("6: the running one's cell", x.actual(0, 0), 0);
        Checks.due("6: the inner one's cell", x.actual(1, 0), -2);
        Checks.due("6: the inner one's formal", x.actual(-1, 0), -2);
        x.enter();
        x.call(2, 2);
        Checks.due("6: nothing prepared", x.actual(1, 0), -4);
    }

    private static void promise7Refusals() {
        CallRows x = new CallRows(4);
        x.program(0, 1, 0);
        x.shared(0);
        x.formal(1, 0, 8);
        Checks.due("7: none is prepared", x.enter(), -4);
        x.call(0, 1);
        Checks.due("7: one lacks", x.enter(), -7);
        Checks.due("7: nothing is prepared after -7", x.count(4), 0);
        Checks.due("7: and nothing is entered", x.count(2), 0);
        Checks.due("7: none is prepared any more", x.enter(), -4);
        x.call(0, 1);
        x.actual(0, 2);
        Checks.due("7: one is omitted", x.enter(), -7);
        x.call(0, 1);
        x.actual(0, 0);
        x.actual(0, 0);
        Checks.due("7: more arguments than formals", x.enter(), -7);
        x.call(0, 1);
        x.actual(0, 0);
        x.actual(0, 2);
        Checks.due("7: an omitted one is one more, too", x.enter(), -7);
        Checks.due("7: it stays fresh", x.state(1), 0);
        x.call(0, 1);
        x.actual(0, 0);
        Checks.due("7: as many as formals", x.enter(), 1);
        Checks.due("7: running", x.count(3), 1);
        Checks.due("7: active", x.state(1), 2);
        Checks.due("7: nothing is prepared after 1", x.count(4), 0);
        Checks.due("7: no arguments after 1", x.count(5), 0);
        Checks.due("7: not twice", x.enter(), -4);
    }

    private static void promise7OmittedAndLacking() {
        CallRows x = new CallRows(4);
        x.program(0, 1, 0);
        x.shared(0);
        x.set(0, 77);
        x.formal(1, 2, 8);
        x.formal(1, 1, 8);
        x.formal(1, 3, 8);
        x.formal(1, 2, 8);
        x.call(0, 1);
        x.actual(0, 2);
        x.actual(0, 0);
        x.actual(0, 2);
        Checks.due("7: optional ones are omitted, one lacks", x.enter(), 1);
        Checks.dueThrow("7: omitted", x, -1);
        Checks.dueValue("7: told", x, -2, 77);
        Checks.dueThrow("7: omitted, by value", x, -3);
        Checks.dueThrow("7: lacking", x, -4);
        Checks.dueThrow("7: no formal", x, -5);
        Checks.due("7: set of an omitted one", x.set(-1, 1), -2);
        Checks.due("7: set of a lacking one", x.set(-4, 1), -2);
        Checks.due("7: all are formals", x.count(6), 4);
        x.leave(0);
        x.call(0, 1);
        x.actual(0, 0);
        Checks.due("7: a middle one that is not optional lacks", x.enter(), -7);
    }

    private static void promise7Bytes() {
        CallRows x = new CallRows(4);
        x.program(0, 1, 0);
        x.formal(1, 0, 3);
        x.shared(0);
        int[] hows = {0, 1, 2, 3};
        for (int how : hows) {
            x.program(1, 10 + how, 0);
            x.formal(2 + 2 * how, how, 3);
            x.program(1, 20 + how, 0);
            x.formal(3 + 2 * how, how, 4);
        }
        x.call(0, 1);
        x.actual(0, 0);
        Checks.due("7: a cell has 8 bytes", x.enter(), 1);
        for (int how : hows) {
            for (int way = 0; way <= 1; way++) {
                x.call(1, 10 + how);
                x.actual(-1, way);
                Checks.due("7: 3 bytes for 3", x.enter(), 1);
                x.leave(0);
                x.call(1, 20 + how);
                x.actual(-1, way);
                Checks.due("7: 3 bytes for 4", x.enter(), -8);
                Checks.due("7: nothing is prepared after -8", x.count(4), 0);
                Checks.due("7: the caller still runs", x.count(3), 1);
            }
        }
    }

    private static void promise7Order() {
        CallRows x = new CallRows(4);
        x.program(0, 1, 0);
        x.formal(1, 0, 1);
        x.program(1, 2, 0);
        x.formal(2, 0, 2);
        x.formal(2, 0, 2);
        x.shared(0);
        x.call(0, 1);
        x.actual(0, 0);
        x.enter();
        x.call(1, 2);
        x.actual(-1, 0);
        Checks.due("7: -7 before -8, one lacks", x.enter(), -7);
        x.call(1, 2);
        x.actual(-1, 0);
        x.actual(-1, 2);
        Checks.due("7: -7 before -8, one is omitted", x.enter(), -7);
        x.call(1, 2);
        x.actual(-1, 0);
        x.actual(0, 0);
        x.actual(0, 0);
        Checks.due("7: -7 before -8, one too many", x.enter(), -7);
        x.call(1, 2);
        x.actual(0, 0);
        x.actual(-1, 0);
        Checks.due("7: -8", x.enter(), -8);
    }

    private static CallRows callerWithOneFormalled(int how, int size) {
        CallRows x = new CallRows(4);
        x.program(0, 1, 0);
        x.cell(1, 0x1122334455667788L);
        x.program(0, 2, 0);
        x.formal(2, how, size);
        x.shared(0);
        Checks.goInto(x, 1, 1);
        x.call(1, 2);
        return x;
    }

    private static void sharedByReference() {
        for (int size = 1; size <= 8; size++) {
            CallRows x = callerWithOneFormalled(0, size);
            x.actual(0, 0);
            x.enter();
            Checks.dueThrow("7: the caller's cell itself is not visible", x, 0);
            long mask = size == 8 ? -1L : (1L << (8 * size)) - 1;
            Checks.due("7: set of a shared formal", x.set(-1, -3), 1);
            Checks.dueValue("7: its value", x, -1, -3);
            x.leave(0);
            Checks.dueValue("7: the caller's cell after", x, 0,
                (0x1122334455667788L & ~mask) | (-3L & mask));
        }
    }

    private static void copiedByContent() {
        CallRows x = callerWithOneFormalled(0, 2);
        x.actual(0, 1);
        x.enter();
        Checks.dueValue("7: the copy's lowest bytes", x, -1, 0x7788);
        x.set(-1, 5);
        Checks.dueValue("7: the copy is set", x, -1, 5);
        x.leave(0);
        Checks.dueValue("7: the cell is not", x, 0, 0x1122334455667788L);
    }

    private static void copiedByValue() {
        CallRows x = callerWithOneFormalled(1, 1);
        x.actual(0, 0);
        x.enter();
        Checks.dueValue("7: the value's lowest byte with its sign", x, -1, (byte) 0x88);
        x.set(-1, 5);
        Checks.dueValue("7: the value is set", x, -1, 5);
        x.leave(0);
        Checks.dueValue("7: the cell is not", x, 0, 0x1122334455667788L);
    }

    private static void copiesAreMadeInTheirTime() {
        CallRows x = new CallRows(4);
        x.program(0, 2, 0);
        x.formal(1, 0, 8);
        x.formal(1, 1, 8);
        x.formal(1, 0, 8);
        x.formal(1, 1, 8);
        x.shared(0);
        x.set(0, 100);
        x.call(0, 2);
        x.actual(0, 1);
        x.actual(0, 1);
        x.actual(0, 0);
        x.actual(0, 0);
        x.set(0, 200);
        x.enter();
        Checks.dueValue("7: by content, as it was when told", x, -1, 100);
        Checks.dueValue("7: by content for a value, as it was when told", x, -2, 100);
        Checks.dueValue("7: by reference", x, -3, 200);
        Checks.dueValue("7: by value, as it was at enter", x, -4, 200);
        x.set(0, 300);
        Checks.dueValue("7: by content after", x, -1, 100);
        Checks.dueValue("7: by content for a value after", x, -2, 100);
        Checks.dueValue("7: by reference after", x, -3, 300);
        Checks.dueValue("7: by value after", x, -4, 200);
        x.set(-1, 1);
        x.set(-2, 2);
        x.set(-4, 4);
        Checks.dueValue("7: each copy is its own, first", x, -1, 1);
        Checks.dueValue("7: each copy is its own, second", x, -2, 2);
        Checks.dueValue("7: each copy is its own, third", x, -3, 300);
        Checks.dueValue("7: each copy is its own, fourth", x, -4, 4);
    }

    private static void formalsPassedOn() {
        CallRows x = new CallRows(9);
        x.program(0, 1, Checks.RECURSIVE);
        x.formal(1, 0, 8);
        x.formal(1, 1, 8);
        x.formal(1, 0, 8);
        x.program(0, 2, 0);
        x.formal(2, 0, 2);
        x.formal(2, 0, 2);
        x.formal(2, 0, 2);
        x.shared(0);
        x.set(0, 0x12345);
        x.call(0, 1);
        x.actual(0, 0);
        x.actual(0, 0);
        x.actual(0, 1);
        x.enter();
        x.call(1, 1);
        x.actual(-1, 0);
        x.actual(-2, 0);
        x.actual(-3, 0);
        x.enter();
        x.call(1, 2);
        x.actual(-1, 0);
        x.actual(-2, 0);
        x.actual(-3, 0);
        x.enter();
        x.set(-1, 1);
        x.set(-2, 2);
        x.set(-3, 3);
        Checks.dueValue("7: through two references", x, 0, 0x10001);
        x.leave(0);
        Checks.dueValue("7: the inner copy by value", x, -2, 0x10002);
        Checks.dueValue("7: the copy by content, shared", x, -3, 0x10003);
        x.leave(0);
        Checks.dueValue("7: the outer copy by value", x, -2, 0x12345);
        Checks.dueValue("7: the copy by content, where it was made", x, -3, 0x10003);
        Checks.dueValue("7: the reference", x, -1, 0x10001);
    }

    private static void twoFormalsOfOneCell() {
        CallRows x = new CallRows(4);
        x.program(0, 1, 0);
        x.formal(1, 0, 8);
        x.formal(1, 0, 1);
        x.shared(0);
        x.call(0, 1);
        x.actual(0, 0);
        x.actual(0, 0);
        x.enter();
        x.set(-1, 0x1ff);
        Checks.dueValue("7: the other formal of the cell", x, -2, -1);
        x.set(-2, 0x17f);
        Checks.dueValue("7: and back", x, -1, 0x17f);
    }

    private static void settledWhenTold() {
        CallRows x = new CallRows(9);
        x.program(0, 1, Checks.RECURSIVE + Checks.GLOBAL);
        x.cell(1, 7);
        x.formal(1, 2, 8);
        x.program(1, 2, 0);
        Checks.goInto(x, 1, 1);
        x.set(0, 10);
        Checks.goInto(x, 2, 2);
        x.call(2, 1);
        x.actual(0, 0);
        x.enter();
        Checks.dueValue("7: its own cell is fresh", x, 0, 7);
        Checks.dueValue("7: the formal is the earlier call's cell", x, -1, 10);
        x.set(-1, 11);
        x.set(0, 12);
        x.leave(0);
        Checks.dueValue("7: the earlier call's cell", x, 0, 11);
    }

    private static void argumentsOfFormerCallsAreGone() {
        CallRows x = new CallRows(4);
        x.program(0, 1, 0);
        x.formal(1, 2, 8);
        x.shared(0);
        x.call(0, 1);
        x.actual(0, 0);
        x.enter();
        Checks.dueValue("7: there is an argument", x, -1, 0);
        x.leave(0);
        Checks.goInto(x, 1, 1);
        Checks.dueThrow("7: formals are of a call", x, -1);
    }
}
