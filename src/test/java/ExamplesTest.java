/** The four examples of the document. */
public final class ExamplesTest {
    public static void main(String[] args) {
        Checks t = new Checks();
        stepReadingUndo(t);
        placeAndEstimator(t);
        observability(t);
        unknownAndScripts(t);
        t.finish();
    }

    private static void stepReadingUndo(Checks t) {
        StateObserver x = new StateObserver();
        t.due("step(5, 0)", x.step(5, 0), 1);
        t.due("state(0, 0)", x.state(0, 0), 5);
        t.due("state(0, 1)", x.state(0, 1), -995);
        t.due("read(0)", x.read(0), 5);
        t.due("width()", x.width(), 0);
        t.due("step(-3, 0)", x.step(-3, 0), 2);
        t.due("state(0, 2)", x.state(0, 2), 2);
        t.argument("step(0, 1)", () -> x.step(0, 1));
        t.due("undo()", x.undo(), 2);
        t.due("undo()", x.undo(), 1);
        t.due("width()", x.width(), 2000);
    }

    private static void placeAndEstimator(Checks t) {
        StateObserver x = new StateObserver();
        t.state("place(0, 1001)", () -> x.place(0, 1001));
        t.due("place(0, 250)", x.place(0, 250), 0);
        t.due("read(0)", x.read(0), 250);
        t.state("place(0, 251)", () -> x.place(0, 251));
        t.due("setGain(0, 0, 16)", x.setGain(0, 0, 16), 0);
        t.due("setHold(1)", x.setHold(1), 0);
        t.due("step(0, 0)", x.step(0, 0), 1);
        t.due("state(0, 3)", x.state(0, 3), 4000);
        t.due("state(0, 4)", x.state(0, 4), 4000);
        t.due("output(0, 1)", x.output(0, 1), 1);
        t.due("step(0, 0)", x.step(0, 0), 2);
        t.due("step(0, 0)", x.step(0, 0), 3);
        t.due("state(0, 3)", x.state(0, 3), 4000);
    }

    private static void observability(Checks t) {
        StateObserver x = new StateObserver();
        t.due("observabilityIndex()", x.observabilityIndex(), 1);
        t.due("hiddenDimension(0)", x.hiddenDimension(0), 1);
        t.due("hiddenDimension(1)", x.hiddenDimension(1), 0);
        t.argument("rankAfter(9)", () -> x.rankAfter(9));
        t.due("free(0, 0)", x.free(0, 0), 1);
        t.index("free(1, 0)", () -> x.free(1, 0));
        t.due("freeRange(0, false)", x.freeRange(0, false), -1000);
        t.state("unknown(true)", () -> x.unknown(true));
        t.due("output(0, 2)", x.output(0, 2), -1000);
        t.state("output(0, 0)", () -> x.output(0, 0));
        t.due("widthIf(0, 1000)", x.widthIf(0, 1000), 0);
        t.due("widthIf(0, 1001)", x.widthIf(0, 1001), -9);
        t.due("earliest(0, 1001, 1, false)", x.earliest(0, 1001, 1, false), 1);
        t.due("earliest(0, 1001, 1, true)", x.earliest(0, 1001, 1, true), -9);
    }

    private static void unknownAndScripts(Checks t) {
        StateObserver x = new StateObserver();
        t.due("setBound(4)", x.setBound(4), 0);
        t.due("step(1, -4)", x.step(1, -4), 1);
        t.due("unknown(false)", x.unknown(false), -4);
        t.due("state(0, 1)", x.state(0, 1), -999);
        t.due("runScript(2, 10123000L)", x.runScript(2, 10123000L), -9);
        t.due("runScript(2, 10153000L)", x.runScript(2, 10153000L), 0);
        t.due("runScript(1, 6000L)", x.runScript(1, 6000L), 0);
        t.argument("runScript(1, 70000L)", () -> x.runScript(1, 70000L));
        t.argument("simulate(1L, 101)", () -> x.simulate(1L, 101));
    }
}
