/** Promises 1 and 6 to 10: a new object, and the numbers of the system, of states and of outputs. */
public final class SystemTest {
    public static void main(String[] args) {
        Checks t = new Checks();
        promise1NewObject(t);
        promise6About(t);
        promise7Coefficient(t);
        promise7Refuses(t);
        promise8State(t);
        promise9Output(t);
        promise9Refuses(t);
        promise10Width(t);
        t.finish();
    }

    private static void promise1NewObject(Checks t) {
        StateObserver x = new StateObserver();
        int[] numbers = {1, 1, 0, 0, 0};
        int[] coefficients = {16, 1, 0, 1, 1, 0};
        int[] first = {0, -1000, 1000, 0, 0};
        for (int what = 0; what < 5; what++) {
            t.due("about(" + what + ")", x.about(what), numbers[what]);
            t.due("state(0, " + what + ")", x.state(0, what), first[what]);
        }
        for (int what = 0; what < 6; what++) {
            t.due("coefficient(" + what + ", 0, 0)", x.coefficient(what, 0, 0), coefficients[what]);
        }
        t.due("errorPosition()", x.errorPosition(), 0);
        t.due("width()", x.width(), 2000);
        t.state("undo()", x::undo);
        t.state("restore(0)", () -> x.restore(0));
        t.state("output(0, 1)", () -> x.output(0, 1));
        t.state("unknown(false)", () -> x.unknown(false));
        StateObserver y = new StateObserver();
        x.step(3, 0);
        t.due("another object's time", y.about(4), 0);
    }

    private static void promise6About(Checks t) {
        StateObserver x = Checks.loaded("N23982r+16+00+00+00r+00+16+00+00o+01+0001o+01+0001o+01+0001");
        t.due("about(0)", x.about(0), 2);
        t.due("about(1)", x.about(1), 3);
        t.due("about(2)", x.about(2), 98);
        t.due("about(3)", x.about(3), 2);
        x.step(0, 0);
        x.step(0, 0);
        x.setBound(7);
        x.setHold(9);
        t.due("about(2)", x.about(2), 7);
        t.due("about(3)", x.about(3), 9);
        t.due("about(4)", x.about(4), 2);
        t.argument("about(-1)", () -> x.about(-1));
        t.argument("about(5)", () -> x.about(5));
    }

    private static StateObserver twoStatesThreeOutputs() {
        return Checks.loaded("N23124r+01-02+03-04r+05+06-07+08o+09-1011o+12+1314o-15+1699g02-17g10+18");
    }

    private static void promise7Coefficient(Checks t) {
        StateObserver x = twoStatesThreeOutputs();
        t.due("coefficient(0, 0, 1)", x.coefficient(0, 0, 1), -2);
        t.due("coefficient(0, 1, 0)", x.coefficient(0, 1, 0), 5);
        t.due("coefficient(1, 1, 0)", x.coefficient(1, 1, 0), -7);
        t.due("coefficient(2, 0, 0)", x.coefficient(2, 0, 0), -4);
        t.due("coefficient(3, 2, 1)", x.coefficient(3, 2, 1), 16);
        t.due("coefficient(3, 0, 1)", x.coefficient(3, 0, 1), -10);
        t.due("coefficient(4, 2, 0)", x.coefficient(4, 2, 0), 99);
        t.due("coefficient(5, 0, 2)", x.coefficient(5, 0, 2), -17);
        t.due("coefficient(5, 1, 0)", x.coefficient(5, 1, 0), 18);
        t.due("coefficient(5, 1, 1)", x.coefficient(5, 1, 1), 0);
        x.setGain(1, 1, -3);
        t.due("coefficient(5, 1, 1)", x.coefficient(5, 1, 1), -3);
    }

    private static void promise7Refuses(Checks t) {
        StateObserver x = twoStatesThreeOutputs();
        int[][] outside = {{0, 2, 0}, {0, 0, 2}, {1, 2, 0}, {1, 0, 1}, {2, 2, 0}, {2, 0, 1}, {3, 3, 0}, {3, 0, 2},
            {4, 3, 0}, {4, 0, 1}, {5, 2, 0}, {5, 0, 3}};
        for (int[] o : outside) {
            t.index("coefficient(" + o[0] + ", " + o[1] + ", " + o[2] + ")", () -> x.coefficient(o[0], o[1], o[2]));
        }
        for (int what = 0; what < 6; what++) {
            int which = what;
            t.index("coefficient(" + what + ", -1, 0)", () -> x.coefficient(which, -1, 0));
            t.index("coefficient(" + what + ", 0, -1)", () -> x.coefficient(which, 0, -1));
        }
        t.argument("coefficient(6, 0, 0)", () -> x.coefficient(6, 0, 0));
        t.argument("coefficient(-1, 0, 0)", () -> x.coefficient(-1, 0, 0));
        t.argument("coefficient(6, 9, -1)", () -> x.coefficient(6, 9, -1));
    }

    private static void promise8State(Checks t) {
        StateObserver x = new StateObserver();
        x.place(0, 250);
        x.read(0);
        t.due("state(0, 3)", x.state(0, 3), 0);
        t.due("state(0, 4) below the interval", x.state(0, 4), 4000);
        x.undo();
        x.place(0, -250);
        x.read(0);
        t.due("state(0, 0)", x.state(0, 0), -250);
        t.due("state(0, 1)", x.state(0, 1), -250);
        t.due("state(0, 2)", x.state(0, 2), -250);
        t.due("state(0, 4) above the interval", x.state(0, 4), -4000);
        x.undo();
        x.step(9, 0);
        t.due("state(0, 3)", x.state(0, 3), 144);
        t.due("state(0, 4) inside the interval", x.state(0, 4), 144);
        t.index("state(1, 0)", () -> x.state(1, 0));
        t.index("state(-1, 0)", () -> x.state(-1, 0));
        t.index("state(1, 9)", () -> x.state(1, 9));
        t.argument("state(0, 5)", () -> x.state(0, 5));
        t.argument("state(0, -1)", () -> x.state(0, -1));
    }

    private static void promise9Output(Checks t) {
        StateObserver x = Checks.loaded("N11000r+16+01+00o+0307");
        t.due("output(0, 2)", x.output(0, 2), -429);
        t.due("output(0, 3)", x.output(0, 3), 428);
        x.place(0, -1);
        t.due("read(0)", x.read(0), -1);
        t.due("output(0, 0)", x.output(0, 0), -1);
        t.due("output(0, 1)", x.output(0, 1), 0);
        t.due("output(0, 2)", x.output(0, 2), -1);
        t.due("output(0, 3)", x.output(0, 3), -1);
        x.step(5, 0);
        x.step(5, 0);
        t.due("output(0, 0)", x.output(0, 0), -1);
        t.due("output(0, 1)", x.output(0, 1), 2);
        t.due("output(0, 2)", x.output(0, 2), 3);
        t.due("output(0, 3)", x.output(0, 3), 3);
        StateObserver y = Checks.loaded("N11000r+16+01+00o-0307");
        y.step(99, 0);
        t.due("output(0, 2) with a negative factor", y.output(0, 2), -471);
        t.due("output(0, 3) with a negative factor", y.output(0, 3), 386);
    }

    private static void promise9Refuses(Checks t) {
        StateObserver x = new StateObserver();
        t.index("output(1, 2)", () -> x.output(1, 2));
        t.index("output(-1, 2)", () -> x.output(-1, 2));
        t.index("output(1, 9)", () -> x.output(1, 9));
        t.argument("output(0, 4)", () -> x.output(0, 4));
        t.argument("output(0, -1)", () -> x.output(0, -1));
        t.state("output(0, 0)", () -> x.output(0, 0));
        t.state("output(0, 1)", () -> x.output(0, 1));
        x.step(0, 0);
        t.state("output(0, 1) after a step", () -> x.output(0, 1));
        x.read(0);
        t.due("output(0, 1)", x.output(0, 1), 0);
        x.undo();
        t.state("output(0, 0) after undo", () -> x.output(0, 0));
    }

    private static void promise10Width(Checks t) {
        StateObserver x = Checks.loaded("N42000r+16+00+00+00+00+00r+00+16+00+00+00+00r+00+00+16+00+00+00"
            + "r+00+00+00+16+00+00o+01+00+00+0005o+00+00+00+0101");
        t.due("width()", x.width(), 8000);
        x.read(0);
        t.due("width()", x.width(), 6004);
        x.read(1);
        t.due("width()", x.width(), 4004);
    }
}
