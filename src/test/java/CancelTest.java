/** Promises 11 and 15: programs that are cancelled, and counts. */
public final class CancelTest {
    public static void main(String[] args) {
        promise11Cancel();
        promise11Inner();
        promise11Names();
        promise11Refusals();
        promise11Order();
        promise11KeepsWhatIsPrepared();
        promise15Count();
        Checks.end();
    }

    private static void promise11Cancel() {
        CallRows x = new CallRows(4);
        x.program(0, 1, 0);
        x.program(0, 2, 0);
        x.program(0, 3, Checks.INITIAL);
        x.program(0, 4, Checks.RECURSIVE);
        x.cell(1, 5);
        x.cell(2, 6);
        Checks.due("11: a fresh one", x.cancel(0, 1), 0);
        for (int i = 1; i <= 4; i++) {
            Checks.goInto(x, i, i);
            x.set(i - 1, 100);
            x.leave(8);
        }
        Checks.due("11: one that has data", x.cancel(0, 1), 1);
        Checks.due("11: it is fresh", x.state(1), 0);
        Checks.due("11: again", x.cancel(0, 1), 0);
        Checks.due("11: an initial one", x.cancel(0, 3), 0);
        Checks.due("11: a recursive one", x.cancel(0, 4), 0);
        Checks.due("11: the other has its data", x.state(2), 1);
        Checks.due("11: what was returned stays", x.returned(), 8);
        Checks.goInto(x, 1, 1);
        Checks.dueValue("11: first value", x, 0, 5);
        Checks.goInto(x, 2, 2);
        Checks.dueValue("11: the other's value", x, 1, 100);
    }

    private static void promise11Inner() {
        CallRows x = new CallRows(9);
        x.program(0, 1, 0);
        x.program(1, 2, 0);
        x.program(2, 3, 0);
        x.program(3, 4, Checks.INITIAL);
        x.program(1, 5, 0);
        x.program(1, 6, 0);
        x.cell(3, 30);
        Checks.goInto(x, 1, 1);
        Checks.goInto(x, 2, 2);
        Checks.goInto(x, 3, 3);
        x.set(0, 31);
        Checks.goInto(x, 4, 4);
        x.leave(0);
        x.leave(0);
        x.leave(0);
        Checks.goInto(x, 5, 5);
        x.leave(0);
        Checks.due("11: with those in it, at any depth", x.cancel(1, 2), 2);
        Checks.due("11: the one beside has data", x.state(5), 1);
        Checks.goInto(x, 2, 2);
        Checks.goInto(x, 3, 3);
        Checks.dueValue("11: the inner one's first value", x, 0, 30);
        x.leave(0);
        x.leave(0);
        x.leave(0);
        Checks.due("11: all but those that were never entered", x.cancel(0, 1), 4);
        for (int i = 1; i <= 6; i++) {
            Checks.due("11: fresh", x.state(i), 0);
        }
    }

    private static void promise11Names() {
        CallRows x = new CallRows(9);
        x.program(0, 1, 0);
        x.program(1, 2, 0);
        x.program(1, 3, Checks.COMMON);
        x.program(0, 3, 0);
        x.program(0, 4, 0);
        Checks.goInto(x, 3, 4);
        x.leave(0);
        Checks.goInto(x, 1, 1);
        Checks.goInto(x, 3, 3);
        x.leave(0);
        Checks.goInto(x, 2, 2);
        Checks.due("11: found as by call, common", x.cancel(2, 3), 1);
        Checks.due("11: the common one is fresh", x.state(3), 0);
        Checks.due("11: the outermost one is not", x.state(4), 1);
        Checks.due("11: outermost", x.cancel(2, 4), 0);
        Checks.due("11: not found", x.cancel(2, 9), -3);
    }

    private static void promise11Refusals() {
        CallRows x = new CallRows(9);
        x.program(0, 1, 0);
        x.program(0, 2, Checks.RECURSIVE);
        x.program(2, 3, 0);
        x.program(1, 4, 0);
        Checks.due("11: from is none, not 1", x.cancel(1, 1), -2);
        Checks.due("11: name below 0", x.cancel(0, -1), -2);
        Checks.due("11: name 100", x.cancel(0, 100), -2);
        Checks.due("11: not found", x.cancel(0, 3), -3);
        Checks.goInto(x, 1, 1);
        Checks.goInto(x, 4, 4);
        x.leave(0);
        Checks.due("11: from is 1, not none", x.cancel(0, 2), -2);
        Checks.due("11: the running one", x.cancel(1, 1), -5);
        Checks.due("11: nothing became fresh", x.state(4), 1);
        Checks.goInto(x, 2, 2);
        Checks.due("11: active, and recursive", x.cancel(2, 2), -5);
        Checks.due("11: active, not running", x.cancel(2, 1), -5);
        Checks.goInto(x, 3, 3);
        Checks.due("11: the one around", x.cancel(3, 2), -5);
        Checks.due("11: still active", x.count(2), 3);
    }

    private static void promise11Order() {
        CallRows x = new CallRows(9);
        x.program(0, 1, 0);
        Checks.goInto(x, 1, 1);
        Checks.due("11: -2 before -3", x.cancel(0, 9), -2);
        Checks.due("11: -2 before -5", x.cancel(0, 1), -2);
    }

    private static void promise11KeepsWhatIsPrepared() {
        CallRows x = new CallRows(9);
        x.program(0, 1, 0);
        x.program(0, 2, 0);
        x.formal(1, 0, 8);
        x.shared(0);
        x.call(0, 1);
        x.actual(0, 1);
        Checks.due("11: another one", x.cancel(0, 2), 0);
        Checks.due("11: refused", x.cancel(0, 9), -3);
        Checks.due("11: still prepared", x.count(4), 1);
        Checks.due("11: with its argument", x.count(5), 1);
        Checks.due("11: entered", x.enter(), 1);
    }

    private static void promise15Count() {
        CallRows x = new CallRows(9);
        x.program(0, 1, 0);
        x.program(0, 2, Checks.RECURSIVE);
        x.program(1, 3, 0);
        x.cell(1, 0);
        x.shared(0);
        x.formal(2, 2, 1);
        x.formal(2, 2, 1);
        dueCounts("declared", x, 3, 2, 0, 0, 0, 0, 0);
        x.call(0, 2);
        dueCounts("prepared", x, 3, 2, 0, 0, 2, 0, 0);
        x.actual(1, 0);
        dueCounts("with an argument", x, 3, 2, 0, 0, 2, 1, 0);
        x.enter();
        dueCounts("entered", x, 3, 2, 1, 2, 0, 0, 2);
        x.call(2, 2);
        x.actual(1, 2);
        x.actual(-1, 1);
        dueCounts("prepared while one runs", x, 3, 2, 1, 2, 2, 2, 2);
        x.enter();
        dueCounts("active twice", x, 3, 2, 2, 2, 0, 0, 2);
        Checks.goInto(x, 1, 1);
        dueCounts("without formals", x, 3, 2, 3, 1, 0, 0, 0);
        x.call(1, 3);
        x.leave(0);
        dueCounts("left", x, 3, 2, 2, 2, 0, 0, 2);
        int[] others = {-1, 7, 100, Integer.MIN_VALUE, Integer.MAX_VALUE};
        for (int what : others) {
            Checks.due("15: count(" + what + ")", x.count(what), CallRows.NONE);
        }
        Checks.due("15: NONE", CallRows.NONE, -1);
    }

    private static void dueCounts(String when, CallRows x, int... want) {
        for (int what = 0; what < want.length; what++) {
            Checks.due("15: " + when + ": count(" + what + ")", x.count(what), want[what]);
        }
    }
}
