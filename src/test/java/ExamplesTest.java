/** The four examples of the document, and its constant. */
public final class ExamplesTest {
    private static final String FIRST = "step(5, 0) = 1; state(0, 0) = 5; state(0, 1) = -995; read(0) = 5; width() = 0;"
        + " step(-3, 0) = 2; state(0, 2) = 2; step(0, 1) = throws IllegalArgumentException; undo() = 2; undo() = 1; width() ="
        + " 2000";
    private static final String SECOND = "place(0, 1001) = throws IllegalStateException; place(0, 250) = 0; read(0) = 250;"
        + " place(0, 251) = throws IllegalStateException; setGain(0, 0, 16) = 0; setHold(1) = 0; step(0, 0) = 1; state(0, 3) ="
        + " 4000; state(0, 4) = 4000; output(0, 1) = 1; step(0, 0) = 2; step(0, 0) = 3; state(0, 3) = 4000";
    private static final String THIRD = "observabilityIndex() = 1; hiddenDimension(0) = 1; hiddenDimension(1) = 0; rankAfter(9)"
        + " = throws IllegalArgumentException; free(0, 0) = 1; free(1, 0) = throws IndexOutOfBoundsException; freeRange(0,"
        + " false) = -1000; unknown(true) = throws IllegalStateException; output(0, 2) = -1000; output(0, 0) = throws"
        + " IllegalStateException; widthIf(0, 1000) = 0; widthIf(0, 1001) = -9; earliest(0, 1001, 1, false) = 1; earliest(0,"
        + " 1001, 1, true) = -9";
    private static final String FOURTH = "setBound(4) = 0; step(1, -4) = 1; unknown(false) = -4; state(0, 1) = -999;"
        + " runScript(2, 10123000L) = -9; runScript(2, 10153000L) = 0; runScript(1, 6000L) = 0; runScript(1, 70000L) = throws"
        + " IllegalArgumentException; simulate(1L, 101) = throws IllegalArgumentException";

    public static void main(String[] args) {
        Checks.main(ExamplesTest.class);
    }

    @Holds(promise = {12, 13, 18}, in = "Examples", sentence = {
        "Examples: Each of them begins with a new object; the results are given behind the calls.",
        "1. A step, a reading, and undo: " + FIRST + "."})
    static void stepReadingUndo(Checks t) {
        t.run(FIRST);
    }

    @Holds(promise = {11, 12, 15, 16}, in = "Examples",
        sentence = "2. A value is placed; an estimator with a gain and a hold: " + SECOND + ".")
    static void placeAndEstimator(Checks t) {
        t.run(SECOND);
    }

    @Holds(promise = {20, 22, 23, 24, 25, 26, 28, 29}, in = "Examples",
        sentence = "3. Observability, combinations, and questions: " + THIRD + ".")
    static void observability(Checks t) {
        t.run(THIRD);
    }

    @Holds(promise = {17, 23, 30, 31}, in = "Examples", sentence = "4. An unknown input, and scripts: " + FOURTH + ".")
    static void unknownAndScripts(Checks t) {
        t.run(FOURTH);
    }

    @Holds(promise = {4, 20, 22, 25, 30}, in = "The constants",
        sentence = {"The constants:", "- `NONE = -9`: There is no such result."})
    static void none(Checks t) {
        t.due("NONE", StateObserver.NONE, -9);
        t.run("append(78); errorPosition() = 1; clearText(); type(N11000r+16+01+00o+0101); errorPosition() = -9",
            "widthIf(0, 1001) = -9; earliest(0, 1001, 0, false) = -9; runScript(1, 3000) = -9");
        t.run("plant(N11000r+16+01+00o+0001); observabilityIndex() = -9");
    }
}
