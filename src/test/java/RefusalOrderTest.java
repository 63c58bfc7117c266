/** The sentence under "Terms" on which refusal is answered where several hold, call by call. */
public final class RefusalOrderTest {
    public static void main(String[] args) {
        Sentences.run(RefusalOrderTest.class);
    }

    private static CallRows withPrograms(int programs) {
        CallRows x = new CallRows(9);
        for (int i = 1; i <= programs; i++) {
            x.program(0, i, 0);
        }
        return x;
    }

    @Sentence(in = "Terms", says = "Where several refusals hold, the answer is: of program() -2, -4, -3, NONE")
    private static void ofProgramWhenThereAre60() {
        CallRows x = withPrograms(60);
        Checks.due("NONE alone", x.program(0, 99, 0), Checks.NONE);
        Checks.due("-3, NONE", x.program(0, 7, 0), -3);
        Checks.due("-2, NONE: within", x.program(61, 99, 0), -2);
        Checks.due("-2, NONE: name", x.program(0, 100, 0), -2);
        Checks.due("-2, NONE: marks", x.program(0, 99, 16), -2);
        Checks.due("-2, -3, NONE", x.program(0, 7, 16), -2);
        Checks.goInto(x, 7, 7);
        Checks.due("-4, NONE", x.program(0, 99, 0), -4);
        Checks.due("-4, -3, NONE", x.program(0, 7, 0), -4);
        Checks.due("-2, -4, NONE", x.program(61, 99, 0), -2);
        Checks.due("-2, -4, -3, NONE", x.program(0, 7, -1), -2);
    }

    @Sentence(in = "Terms", says = "Where several refusals hold, the answer is: of program() -2, -4, -3, NONE")
    private static void ofProgramWhenThereAreLess() {
        CallRows x = withPrograms(2);
        Checks.due("-2, -3", x.program(0, 2, 16), -2);
        Checks.goInto(x, 1, 1);
        Checks.due("-4, -3", x.program(0, 2, 0), -4);
        Checks.due("-2, -4: within", x.program(3, 3, 0), -2);
        Checks.due("-2, -4: name", x.program(0, 100, 0), -2);
        Checks.due("-2, -4: marks", x.program(0, 3, 16), -2);
        Checks.due("-2, -4, -3", x.program(0, 2, -1), -2);
    }

    @Sentence(in = "Terms", says = "of cell() and formal() -2, -4, NONE")
    private static void ofCell() {
        CallRows x = withPrograms(1);
        for (int i = 0; i < 200; i++) {
            x.cell(1, 0);
        }
        Checks.due("NONE alone", x.cell(1, 0), Checks.NONE);
        Checks.due("-2, NONE", x.cell(2, 0), -2);
        Checks.goInto(x, 1, 1);
        Checks.due("-4, NONE", x.cell(1, 0), -4);
        Checks.due("-2, -4, NONE", x.cell(2, 0), -2);
        CallRows y = withPrograms(1);
        Checks.goInto(y, 1, 1);
        Checks.due("-2, -4", y.cell(0, 0), -2);
    }

    @Sentence(in = "Terms", says = "of cell() and formal() -2, -4, NONE")
    private static void ofFormal() {
        CallRows x = withPrograms(2);
        for (int i = 0; i < 16; i++) {
            x.formal(1, 2, 8);
        }
        Checks.due("NONE alone", x.formal(1, 2, 8), Checks.NONE);
        Checks.due("-2, NONE: how", x.formal(1, 4, 8), -2);
        Checks.due("-2, NONE: size", x.formal(1, 2, 9), -2);
        Checks.goInto(x, 1, 1);
        Checks.due("-4, NONE", x.formal(1, 2, 8), -4);
        Checks.due("-2, -4, NONE: how", x.formal(1, -1, 8), -2);
        Checks.due("-2, -4, NONE: size", x.formal(1, 2, 0), -2);
        Checks.due("-2, -4: program", x.formal(3, 2, 8), -2);
        Checks.due("-2, -4: how", x.formal(2, 4, 8), -2);
        Checks.due("-2, -4: size", x.formal(2, 2, 9), -2);
    }

    @Sentence(in = "Terms", says = "of actual() -4, -2, NONE")
    private static void ofActual() {
        CallRows x = withPrograms(1);
        x.shared(0);
        Checks.due("-4, -2: how", x.actual(0, 3), -4);
        Checks.due("-4, -2: cell", x.actual(1, 0), -4);
        Checks.due("-4, -2: both", x.actual(-1, -1), -4);
        x.call(0, 1);
        for (int i = 0; i < 16; i++) {
            x.actual(0, 0);
        }
        Checks.due("NONE alone", x.actual(0, 0), Checks.NONE);
        Checks.due("NONE alone, omitted", x.actual(1, 2), Checks.NONE);
        Checks.due("-2, NONE: how", x.actual(0, 3), -2);
        Checks.due("-2, NONE: cell by reference", x.actual(1, 0), -2);
        Checks.due("-2, NONE: cell by content", x.actual(1, 1), -2);
    }

    @Sentence(in = "Terms", says = "of shared() -2, NONE")
    private static void ofShared() {
        CallRows x = withPrograms(1);
        for (int i = 0; i < 200; i++) {
            x.cell(1, 0);
        }
        Checks.due("NONE alone", x.shared(0), Checks.NONE);
        Checks.due("-2, NONE: below", x.shared(-1), -2);
        Checks.due("-2, NONE: above", x.shared(100), -2);
    }

    @Sentence(in = "Terms", says = "of others the one that is told first")
    private static void ofCall() {
        CallRows x = new CallRows(1);
        x.program(0, 1, 0);
        x.program(0, 2, 0);
        Checks.due("-2, -3", x.call(1, 9), -2);
        Checks.goInto(x, 1, 1);
        Checks.due("-6 alone", x.call(1, 2), -6);
        Checks.due("-5, -6", x.call(1, 1), -5);
        Checks.due("-3, -6", x.call(1, 9), -3);
        Checks.due("-2, -6: from", x.call(0, 2), -2);
        Checks.due("-2, -6: name", x.call(1, 100), -2);
        Checks.due("-2, -5, -6", x.call(2, 1), -2);
        Checks.due("-2, -3, -6", x.call(0, 9), -2);
    }

    @Sentence(in = "Terms", says = "of others the one that is told first")
    private static void ofEnter() {
        CallRows x = withPrograms(2);
        x.formal(1, 0, 1);
        x.formal(2, 0, 2);
        x.formal(2, 0, 2);
        x.shared(0);
        Checks.goIntoWith(x, 1, 1, 0, 0);
        x.call(1, 2);
        x.actual(-1, 0);
        Checks.due("-7, -8: one lacks", x.enter(), -7);
        x.call(1, 2);
        x.actual(-1, 0);
        x.actual(-1, 2);
        Checks.due("-7, -8: one behind it is omitted", x.enter(), -7);
        x.call(1, 2);
        x.actual(-1, 2);
        x.actual(-1, 0);
        Checks.due("-7, -8: one before it is omitted", x.enter(), -7);
        x.call(1, 2);
        x.actual(-1, 0);
        x.actual(0, 0);
        x.actual(0, 0);
        Checks.due("-7, -8: one too many", x.enter(), -7);
        x.call(1, 2);
        x.actual(0, 0);
        x.actual(-1, 0);
        Checks.due("-8 alone", x.enter(), -8);
    }

    @Sentence(in = "Terms", says = "of others the one that is told first")
    private static void ofCancel() {
        CallRows x = withPrograms(2);
        Checks.due("-2, -3", x.cancel(1, 9), -2);
        Checks.goInto(x, 1, 1);
        Checks.due("-5 alone", x.cancel(1, 1), -5);
        Checks.due("-2, -5: from 0", x.cancel(0, 1), -2);
        Checks.due("-2, -5: from another", x.cancel(2, 1), -2);
        Checks.due("-2, -3: from", x.cancel(0, 9), -2);
    }
}
