/** Promises 19 to 23: the questions about values, widths and bounds. */
public final class QuestionsTest {
    /** Two states that stay as they are; the output is their sum. */
    private static final String SUM = "plant(N21000r+16+00+00+00r+00+16+00+00o+01+0101)";
    /** Four states that stay as they are; the output shows state 3. */
    private static final String FOUR = "plant(N41000r+16+00+00+00+00+00r+00+16+00+00+00+00r+00+00+16+00+00+00"
        + "r+00+00+00+16+00+00o+00+00+00+0101)";
    /** State 0 grows until it is limited; state 1 becomes state 0 plus both inputs, and is shown with a quantum of 10 or 3. */
    private static final String LIMITED = "plant(N23050r+99+00+00+00r+16+00+01+01o+00+0110o+00+0103o+01+0001); place(0, ";

    public static void main(String[] args) {
        Checks.main(QuestionsTest.class);
    }

    @Holds(promise = {19, 20, 21, 22, 23, 24, 25, 26, 27, 28, 29}, sentence = "questions; they change nothing")
    static void questionsChangeNothing(Checks t) {
        String busy = "plant(N22034r+16+04+02+01r-03+15+01-02o+01+0103o+01-0102g00+05g11-07); place(0, 9); place(1, -4); "
            + "read(0); step(3, -1); read(1); save(0); step(-2, 3); save(1); read(0); append(63); ";
        String[] questions = {"canBe(11, -12, 0, 0)", "canBe(0, 0, 0, 0)", "widthIf(0, 1)", "widthIf(1, -900)", "widthIf(1, 5)",
            "ahead(60, 9, 1, true)", "ahead(0, 0, 0, false)", "earliest(0, 5000, 9, false)", "earliest(1, -5000, 9, true)",
            "unknown(true)", "unknown(false)", "rankAfter(8)", "observabilityIndex()", "hiddenDimension(8)", "touched()",
            "free(0, 1)", "freeRange(0, true)", "runScript(3, 199330012993L)", "simulate(7L, 100)", "errorPosition()", "width()",
            "about(2)", "coefficient(0, 1, 1)", "state(1, 4)", "output(1, 2)"};
        for (String question : questions) {
            t.run(busy + question);
        }
        t.run(busy + String.join("; ", questions));
    }

    // ---- promise 19

    @Holds(promise = 19, sentence = {"Tells whether some values can be the true ones: each is in the interval of its state,",
        "Returns true if they can be."})
    static void valuesInTheIntervals(Checks t) {
        t.run("canBe(1000, 0, 0, 0) = true; canBe(1001, 0, 0, 0) = false; canBe(-1000, 0, 0, 0) = true; canBe(-1001, 0, 0, 0) = false",
            "canBe(-2147483648, 0, 0, 0) = false; canBe(2147483647, 0, 0, 0) = false; place(0, 7); read(0)",
            "canBe(7, 0, 0, 0) = true; canBe(6, 0, 0, 0) = false; canBe(8, 0, 0, 0) = false; canBe(0, 0, 0, 0) = false");
        t.run(FOUR + "; canBe(1000, 1000, 1000, 1000) = true; canBe(-1000, -1000, -1000, -1000) = true",
            "canBe(1001, 0, 0, 0) = false; canBe(0, 1001, 0, 0) = false; canBe(0, 0, 1001, 0) = false; canBe(0, 0, 0, 1001) = false",
            "canBe(-1001, 0, 0, 0) = false; canBe(0, -1001, 0, 0) = false; canBe(0, 0, -1001, 0) = false",
            "canBe(0, 0, 0, -1001) = false; canBe(0, 0, 0, -2147483648) = false");
    }

    @Holds(promise = 19, sentence = "and they meet the conditions of all fresh outputs.")
    static void valuesAndFreshOutputs(Checks t) {
        t.run(SUM + "; place(0, 7); read(0); canBe(3, 4, 0, 0) = true; canBe(3, 5, 0, 0) = false; canBe(1000, -993, 0, 0) = true",
            "canBe(1001, -994, 0, 0) = false; step(0, 0); canBe(3, 5, 0, 0) = true; read(0); canBe(3, 5, 0, 0) = false; undo()",
            "canBe(3, 5, 0, 0) = true");
        t.run("plant(N22000r+16+00+00+00r+00+16+00+00o+01+0110o+01-0110); read(0); read(1); canBe(4, 4, 0, 0) = true",
            "canBe(5, 5, 0, 0) = false; canBe(0, 9, 0, 0) = false; canBe(9, 0, 0, 0) = true; canBe(5, 4, 0, 0) = true",
            "canBe(10, 0, 0, 0) = false; canBe(4, 5, 0, 0) = false");
        // all four values count
        t.run("plant(N41000r+16+00+00+00+00+00r+00+16+00+00+00+00r+00+00+16+00+00+00r+00+00+00+16+00+00o+01+02+04+0801); read(0)",
            "canBe(0, 0, 0, 0) = true; canBe(8, 0, 0, -1) = true; canBe(2, -1, 0, 0) = true; canBe(0, 2, -1, 0) = true",
            "canBe(0, 0, 2, -1) = true; canBe(0, 0, 0, 1) = false; canBe(0, 0, 1, 0) = false; canBe(0, 1, 0, 0) = false");
    }

    @Holds(promise = 19, sentence = {"- `a`: value of state 0", "- `b`: value of state 1; 0 if there is no such state",
        "- `c`: value of state 2; 0 if there is no such state", "- `d`: value of state 3; 0 if there is no such state",
        "Throws `IllegalArgumentException` if a value for a state that does not exist is not 0"})
    static void valuesOfStatesThatDoNotExist(Checks t) {
        t.run("canBe(0, 0, 0, 0) = true; canBe(0, 1, 0, 0) = throws IllegalArgumentException",
            "canBe(0, 0, -1, 0) = throws IllegalArgumentException; canBe(0, 0, 0, 1) = throws IllegalArgumentException",
            "canBe(2000, 0, 0, 1) = throws IllegalArgumentException; canBe(0, 2147483647, 0, 0) = throws IllegalArgumentException",
            "canBe(0, 0, 0, -2147483648) = throws IllegalArgumentException");
        t.run(SUM + "; canBe(0, 1, 0, 0) = true; canBe(0, 0, 1, 0) = throws IllegalArgumentException",
            "canBe(0, 0, 0, -1) = throws IllegalArgumentException; canBe(0, 5000, 1, 0) = throws IllegalArgumentException");
        t.run("plant(N31000r+16+00+00+00+00r+00+16+00+00+00r+00+00+16+00+00o+01+00+0001); canBe(0, 0, 1, 0) = true",
            "canBe(0, 0, 0, 1) = throws IllegalArgumentException; canBe(5000, 0, 0, 1) = throws IllegalArgumentException");
        t.run(FOUR + "; canBe(0, 0, 0, 1) = true");
    }

    // ---- promise 20

    @Holds(promise = 20, sentence = {"Returns the sum of all widths that would result if an output were read now with a given"
        + " reading and the intervals tightened.", "- `k`: output", "Returns the sum of widths;"})
    static void widthsWithAReading(Checks t) {
        // -2 * x from 5 * y to 5 * y + 4
        t.run("plant(N11000r+16+01+00o-0205); widthIf(0, 0) = 2; widthIf(0, 1) = 1; widthIf(0, 400) = 0; widthIf(0, -400) = 2",
            "width() = 2000");
        t.run(SUM + "; widthIf(0, 0) = 4000; widthIf(0, 100) = 3800; widthIf(0, -1986) = 28; widthIf(0, 2000) = 0");
        t.run("plant(N22000r+16+00+00+00r+00+16+00+00o+01+0001o+00+0110); widthIf(0, 5) = 2000; widthIf(1, 5) = 2009; read(0)",
            "widthIf(1, -100) = 9; widthIf(1, 100) = 0");
    }

    @Holds(promise = 20, sentence = "(If the output is fresh, its reading would be replaced.)")
    static void freshReadingReplaced(Checks t) {
        t.run(SUM + "; place(0, 7); read(0) = 7; width() = 3986; widthIf(0, 100) = 3800; output(0, 0) = 7; widthIf(0, 7) = 3986",
            "widthIf(0, 8) = 3984; canBe(3, 4, 0, 0) = true; width() = 3986");
        // the readings of other fresh outputs count, those of outputs that are not fresh do not
        t.run("plant(N22000r+16+00+00+00r+00+16+00+00o+01+0101o+01-0101); place(0, 600); place(1, 600); read(0) = 1200",
            "width() = 1600; widthIf(1, 800) = 0; widthIf(1, 801) = NONE; step(0, 0); widthIf(1, 801) = NONE",
            "widthIf(1, 100) = 1400; widthIf(1, 799) = 2");
    }

    @Holds(promise = 20, sentence = "NONE if the tightening would fail.")
    static void readingThatCannotBe(Checks t) {
        t.run("widthIf(0, 1000) = 0; widthIf(0, 1001) = NONE; widthIf(0, -1000) = 0; widthIf(0, -1001) = NONE");
        t.run("plant(N11000r+16+01+00o-0205); widthIf(0, 400) = 0; widthIf(0, 401) = NONE; widthIf(0, -400) = 2",
            "widthIf(0, -401) = NONE; widthIf(0, 1000000) = NONE; widthIf(0, -1000000) = NONE");
        t.run("plant(N11000r+16+01+00o+9999); widthIf(0, 1000000) = NONE; widthIf(0, -1000000) = NONE; widthIf(0, 1000) = 0",
            "widthIf(0, 1001) = NONE");
        t.run(SUM + "; widthIf(0, 2000) = 0; widthIf(0, 2001) = NONE; widthIf(0, -2001) = NONE");
        // an output that shows nothing cuts nothing, whatever its reading is: no pass looks at a state then
        t.run("plant(N11000r+16+01+00o+0001); widthIf(0, 0) = 2000; widthIf(0, 5) = 2000; widthIf(0, -1000000) = 2000");
    }

    @Holds(promise = 20, sentence = "Throws `IndexOutOfBoundsException` if there is no such output")
    static void widthOfNoOutput(Checks t) {
        t.run("widthIf(1, 0) = throws IndexOutOfBoundsException; widthIf(-1, 0) = throws IndexOutOfBoundsException",
            "widthIf(1, 1000001) = throws IndexOutOfBoundsException; widthIf(2147483647, 0) = throws IndexOutOfBoundsException",
            "widthIf(-2147483648, -2147483648) = throws IndexOutOfBoundsException");
        t.run("plant(N13000r+16+01+00o+0101o+0101o+0101); widthIf(2, 0) = 0; widthIf(3, 0) = throws IndexOutOfBoundsException");
    }

    @Holds(promise = 20, sentence = "- `y`: the reading, -1000000 to 1000000")
    static void leastAndGreatestReading(Checks t) {
        t.run("widthIf(0, 1000000) = NONE; widthIf(0, -1000000) = NONE");
        t.run("plant(N11000r+99+00+00o+0101); 4 times step(0, 0); widthIf(0, 1000000) = 0; widthIf(0, -1000000) = 0",
            "widthIf(0, 1000001) = throws IllegalArgumentException");
        // with a quantum the range goes from 99000000 to 99000098, or from -99000000 to -98999902
        t.run("plant(N11000r+99+00+00o+9999); 4 times step(0, 0); widthIf(0, 1000000) = 0; widthIf(0, -1000000) = 0",
            "widthIf(0, 999999) = 0; widthIf(0, -999999) = 0");
    }

    @Holds(promise = 20, sentence = "Throws `IllegalArgumentException` if y is out of range")
    static void readingOutOfRange(Checks t) {
        t.run("widthIf(0, 1000001) = throws IllegalArgumentException; widthIf(0, -1000001) = throws IllegalArgumentException",
            "widthIf(0, 2147483647) = throws IllegalArgumentException; widthIf(0, -2147483648) = throws IllegalArgumentException");
    }

    // ---- promise 21

    @Holds(promise = 21, sentence = {"Returns a bound of a state after some steps without readings.", "- `i`: state",
        "- `upper`: true for the upper bound, false for the lower bound", "Returns the bound then."})
    static void boundsAhead(Checks t) {
        t.run("plant(N11040r+16+01+01o+0101); ahead(3, 5, 0, true) = 1027; ahead(3, 5, 0, false) = -997; read(0); step(7, 1)",
            "ahead(0, 1, 0, true) = 11; ahead(0, 1, 0, false) = 3; ahead(2, 1, 0, true) = 21; ahead(2, 1, 0, false) = -3",
            "read(0) = 8; ahead(2, 1, 0, true) = 18; ahead(2, 1, 0, false) = 2; about(4) = 1");
        t.run("plant(N21010r+00+16+01+00r-16+00+00+02o+01+0001); ahead(1, 3, 0, true) = 1003; ahead(1, 3, 1, true) = 1002",
            "ahead(2, 3, 0, false) = -999; ahead(2, 3, 1, false) = -1005; ahead(2, 3, 1, true) = 999");
        t.run("plant(N11000r+99+01+00o+0101); ahead(60, 99, 0, true) = 1000000; ahead(60, 99, 0, false) = -1000000");
    }

    @Holds(promise = 21, sentence = "- `steps`: number of steps, 0 to 60")
    static void fewestAndMostSteps(Checks t) {
        t.run("plant(N11040r+16+01+01o+0101); ahead(0, 99, 0, true) = 1000; ahead(0, 99, 0, false) = -1000",
            "ahead(1, 0, 0, true) = 1004; ahead(60, 0, 0, true) = 1240; ahead(60, 0, 0, false) = -1240",
            "ahead(59, 0, 0, false) = -1236");
    }

    @Holds(promise = 21, sentence = "- `u`: the input in all of these steps, -99 to 99")
    static void leastAndGreatestInputAhead(Checks t) {
        t.run("plant(N11040r+16+01+01o+0101); ahead(60, -99, 0, false) = -7180; ahead(60, 99, 0, true) = 7180",
            "ahead(60, 99, 0, false) = 4700; ahead(60, -99, 0, true) = -4700");
    }

    @Holds(promise = 21, sentence = "Throws `IndexOutOfBoundsException` if there is no such state")
    static void aheadOfNoState(Checks t) {
        t.run("ahead(1, 0, 1, true) = throws IndexOutOfBoundsException; ahead(0, 0, -1, false) = throws IndexOutOfBoundsException",
            "ahead(61, 100, 1, true) = throws IndexOutOfBoundsException; ahead(1, 0, 2147483647, true) = throws IndexOutOfBoundsException",
            "ahead(1, 0, -2147483648, true) = throws IndexOutOfBoundsException");
        t.run(FOUR + "; ahead(1, 0, 3, true) = 1000; ahead(1, 0, 4, true) = throws IndexOutOfBoundsException");
    }

    @Holds(promise = 21, sentence = "Throws `IllegalArgumentException` if steps or u is out of range")
    static void aheadOutOfRange(Checks t) {
        t.run("ahead(-1, 0, 0, true) = throws IllegalArgumentException; ahead(61, 0, 0, true) = throws IllegalArgumentException",
            "ahead(1, 100, 0, true) = throws IllegalArgumentException; ahead(1, -100, 0, true) = throws IllegalArgumentException",
            "ahead(0, 100, 0, true) = throws IllegalArgumentException; ahead(2147483647, 0, 0, true) = throws IllegalArgumentException",
            "ahead(-2147483648, 0, 0, true) = throws IllegalArgumentException; ahead(1, 2147483647, 0, true) = throws IllegalArgumentException",
            "ahead(1, -2147483648, 0, false) = throws IllegalArgumentException");
    }

    // ---- promise 22

    @Holds(promise = 22, sentence = {"Finds the earliest time at which a state can be, or surely is, at least a given value,"
        + " without readings.", "- `i`: state", "- `v`: the value",
        "- `surely`: true: the lower bound is at least v; false: the upper bound is at least v"})
    static void earliestTime(Checks t) {
        t.run("earliest(0, 1000, 1, false) = 0; earliest(0, 1001, 1, false) = 1; earliest(0, 1010, 1, false) = 10",
            "earliest(0, -1000, 1, true) = 0; earliest(0, -999, 1, true) = 1; earliest(0, -990, 1, true) = 10",
            "earliest(0, 1001, -1, false) = NONE; earliest(0, -999, -1, true) = NONE; read(0); earliest(0, 0, 1, true) = 0",
            "earliest(0, 1, 1, true) = 1; earliest(0, 1, 1, false) = 1");
        // the first time counts, not the last one: the state goes up and down
        t.run("plant(N11000r-16+01+00o+0101); place(0, 300); read(0); step(0, 0); earliest(0, 1, 0, true) = 1",
            "earliest(0, -300, 0, true) = 0; earliest(0, 301, 0, false) = NONE; earliest(0, 300, 0, false) = 1; about(4) = 1");
        t.run("plant(N21010r+00+16+00+00r+00+16+01+01o+01+0001); earliest(0, 1001, 5, false) = 2; earliest(1, 1001, 5, false) = 1",
            "earliest(1, -999, 5, true) = 1; earliest(0, -999, 5, true) = 2; earliest(0, -992, 5, true) = 3");
        t.run("earliest(0, -2147483648, 0, true) = 0; earliest(0, 2147483647, 99, false) = NONE",
            "earliest(0, 2147483647, 99, true) = NONE; earliest(0, -2147483648, -99, false) = 0");
    }

    @Holds(promise = 22, sentence = "Returns the smallest number of steps, 0 to 60, after which this is so; NONE if there is none.")
    static void fewestAndMostStepsToAValue(Checks t) {
        t.run("earliest(0, 1000, 0, false) = 0; earliest(0, 1059, 1, false) = 59; earliest(0, 1060, 1, false) = 60",
            "earliest(0, 1061, 1, false) = NONE; earliest(0, -940, 1, true) = 60; earliest(0, -939, 1, true) = NONE",
            "earliest(0, -1000, 0, true) = 0; earliest(0, -999, 0, true) = NONE");
        t.run("plant(N11000r+99+00+00o+0101); earliest(0, 1000000, 0, false) = 4; earliest(0, 1000001, 0, false) = NONE");
    }

    @Holds(promise = 22, sentence = "- `u`: the input in all steps, -99 to 99")
    static void leastAndGreatestInput(Checks t) {
        t.run("earliest(0, 6940, 99, false) = 60; earliest(0, 6941, 99, false) = NONE; earliest(0, 4940, 99, true) = 60",
            "earliest(0, 1000, -99, false) = 0; earliest(0, 1001, -99, false) = NONE");
    }

    @Holds(promise = 22, sentence = "Throws `IndexOutOfBoundsException` if there is no such state")
    static void earliestOfNoState(Checks t) {
        t.run("earliest(1, 0, 0, true) = throws IndexOutOfBoundsException; earliest(-1, 0, 0, true) = throws IndexOutOfBoundsException",
            "earliest(1, 0, 100, true) = throws IndexOutOfBoundsException; earliest(2147483647, 0, 0, true) = throws IndexOutOfBoundsException",
            "earliest(-2147483648, 0, 0, false) = throws IndexOutOfBoundsException");
        t.run(FOUR + "; earliest(3, 0, 0, false) = 0; earliest(4, 0, 0, false) = throws IndexOutOfBoundsException");
    }

    @Holds(promise = 22, sentence = "Throws `IllegalArgumentException` if u is out of range")
    static void earliestOutOfRange(Checks t) {
        t.run("earliest(0, -2000, 100, true) = throws IllegalArgumentException; earliest(0, 0, -100, false) = throws IllegalArgumentException",
            "earliest(0, 0, 2147483647, true) = throws IllegalArgumentException",
            "earliest(0, 0, -2147483648, true) = throws IllegalArgumentException");
    }

    // ---- promise 23

    @Holds(promise = 23, sentence = {"Returns a bound of the unknown input d of the last step that follows from the present"
        + " intervals.", "- `upper`: true for the greatest such integer, false for the smallest one", "Returns that integer."})
    static void unknownInput(Checks t) {
        t.run("plant(N11050r+16+07+02o+0101); place(0, 10); read(0); step(4, 3); unknown(false) = -5; unknown(true) = 5; read(0)",
            "unknown(false) = 3; unknown(true) = 3; step(0, 1); unknown(false) = -5; unknown(true) = 5; undo(); unknown(false) = 3",
            "unknown(true) = 3; undo(); unknown(false) = -5; unknown(true) = 5");
        t.run("plant(N11050r+16+00+02o+0105); place(0, 10); read(0); step(0, 3); read(0); unknown(false) = 1; unknown(true) = 4");
        t.run("plant(N11050r+16+00-02o+0105); place(0, 10); read(0); step(0, 3); read(0); unknown(false) = 3; unknown(true) = 5");
        // readings and cuts after the step count; a later step makes the answer another one
        t.run("plant(N22090r+16+00+00+01r+00+16+00+00o+01+0001o+01+0101); read(0); step(0, 4); unknown(true) = 9; read(0) = 4",
            "unknown(true) = 4; unknown(false) = 4; save(0); step(0, 0); unknown(true) = 9; restore(0); unknown(true) = 4");
    }

    @Holds(promise = 23, sentence = "It is one of the integers from -B to B, where B was the bound in that step,")
    static void boundOfThatStep(Checks t) {
        for (int d = -99; d <= 99; d += 99) {
            t.run("plant(N11990r+16+00+01o+0101); read(0); step(0, " + d + "); unknown(false) = -99; unknown(true) = 99; read(0)",
                "unknown(false) = " + d + "; unknown(true) = " + d);
        }
        t.run("step(5, 0); unknown(false) = 0; unknown(true) = 0");
        t.run("plant(N11050r+16+00+01o+0101); step(0, 5); setBound(2); unknown(false) = -5; unknown(true) = 5; setBound(99)",
            "unknown(false) = -5; unknown(true) = 5; step(0, 0); unknown(false) = -99; unknown(true) = 99");
        t.run("plant(N11000r+16+00+01o+0101); step(0, 0); unknown(false) = 0; setBound(7); unknown(true) = 0; undo(); undo()",
            "setBound(7); step(0, 0); unknown(true) = 7");
    }

    @Holds(promise = 23,
        sentence = "that meet the following conditions of all states i with e(i) different from 0.")
    static void allStatesWithTheUnknownInput(Checks t) {
        // d from one state, from the other one, and from both
        String both = "plant(N22090r+16+00+00+01r+00+16+00-01o+01+0005o+00+0105); read(0); read(1); step(0, 3); ";
        t.run(both + "unknown(false) = -9; unknown(true) = 9; read(0) = 0; unknown(false) = -4; unknown(true) = 4; undo()",
            "read(1) = -1; unknown(false) = 1; unknown(true) = 9; read(0); unknown(false) = 1; unknown(true) = 4");
        // four states, and the one state of a plant that is loaded after a greater one
        String four = "N41090r+16+00+00+00+00+01r+00+16+00+00+00+01r+00+00+16+00+00+01r+00+00+00+16+00+01o+00+00+00+0101";
        t.run("plant(" + four + "); read(0); step(0, 3); unknown(false) = -9; unknown(true) = 9; read(0); unknown(false) = 3",
            "unknown(true) = 3");
        t.run("plant(" + four + "); clearText(); plant(N11040r+16+01+00o+0101); read(0); step(1, 4); read(0); unknown(false) = -4",
            "unknown(true) = 4");
        // a state without it tells nothing of it
        t.run("plant(N11050r+16+01+00o+0105); read(0); step(2, 3); read(0); unknown(false) = -5; unknown(true) = 5");
        t.run("plant(N21050r+16+00+00+00r+00+16+00+01o+01+0001); read(0); step(0, 3); read(0); unknown(false) = -5; unknown(true) = 5");
    }

    @Holds(promise = 23, sentence = "Let u be the input of that step, and low and high the least and the greatest value of the"
        + " sum of A(i, j) times state j over the intervals before that step.")
    static void sumsBeforeThatStep(Checks t) {
        // state 0 was from 0 to 9 before the step: -16 * x is from -144 to 0, and 20 * x / 16 from 0 to 11
        t.run("plant(N12090r-16+07+01o+0101o+0110); place(0, 5); read(1); step(3, 2); read(0) = 18; unknown(false) = -3",
            "unknown(true) = 6");
        t.run("plant(N12090r+20-07+01o+0101o+0110); place(0, 5); read(1); step(3, 2); read(0) = -13; unknown(false) = -3",
            "unknown(true) = 8");
        // the sum has both states in it, and the one with the negative factor at its other end: 16 * x0 - 32 * x1
        t.run("plant(N22090r+16-32+00+01r+00+16+00+00o+01+0002o+00+0103); read(0); read(1); step(0, 2); read(0) = 1",
            "state(0, 1) = 2; state(0, 2) = 3; unknown(false) = 1; unknown(true) = 7");
    }

    @Holds(promise = 23, sentence = "If the lower bound of state i is greater than -1000000, e(i) * d must be at least (lower"
        + " bound of state i) - b(i) * u - floor(high / 16);")
    static void lowerBoundOfAState(Checks t) {
        // the state is from -1000000 to -999994: the lower bound may have been limited
        t.run(LIMITED + "-1000); read(2); 4 times step(0, 0); step(1, -5); state(1, 1) = -1000000; state(1, 2) = -999994",
            "unknown(false) = -5; unknown(true) = 5; read(0) = -100000; unknown(false) = -5; read(1) = -333334",
            "state(1, 2) = -1000000; unknown(false) = -5; unknown(true) = -1");
        // the state is from -999999 to -999997: the lower bound is beyond the limit by one
        t.run(LIMITED + "-1000); read(2); 4 times step(0, 0); step(1, 0); read(1) = -333333; state(1, 1) = -999999",
            "unknown(false) = 0; unknown(true) = 2");
        // rounding: high is 5 * 3, and its sixteenth is 0
        t.run("plant(N12090r+05+00+01o+0101o+0104); read(1); step(0, 2); read(0) = 2; unknown(false) = 2; unknown(true) = 2");
    }

    @Holds(promise = 23, sentence = "if its upper bound is less than 1000000, e(i) * d must be at most (upper bound of state i)"
        + " - b(i) * u - floor(low / 16).")
    static void upperBoundOfAState(Checks t) {
        // the state is from 999994 to 1000000: the upper bound may have been limited
        t.run(LIMITED + "1000); read(2); 4 times step(0, 0); step(-1, 5); state(1, 1) = 999994; state(1, 2) = 1000000",
            "unknown(false) = -5; unknown(true) = 5; read(0) = 100000; state(1, 1) = 1000000; unknown(false) = 1; unknown(true) = 5");
        // the state is from 999994 to 999999: the upper bound is beyond the limit by one
        t.run(LIMITED + "1000); read(2); 4 times step(0, 0); step(-1, 0); read(0) = 99999; state(1, 2) = 999999",
            "unknown(false) = -5; unknown(true) = 0");
        // rounding: low is 5 * -4, and its sixteenth is -2
        t.run("plant(N12090r+05+00+01o+0101o+0104); place(0, -1); read(1) = -1; step(0, 2); read(0) = 1; unknown(false) = 2",
            "unknown(true) = 3");
    }

    @Holds(promise = 23, sentence = "Throws `IllegalStateException` if there was no step,")
    static void noStep(Checks t) {
        t.run("unknown(true) = throws IllegalStateException; unknown(false) = throws IllegalStateException; read(0); setBound(3)",
            "unknown(true) = throws IllegalStateException; step(0, 0); unknown(true) = 3; undo()",
            "unknown(true) = throws IllegalStateException; save(0); step(0, 1); unknown(false) = -3; restore(0)",
            "unknown(false) = throws IllegalStateException");
        t.run("type(N11050r+16+01+01o+0101); step(0, 0); unknown(true) = 0; load(); unknown(true) = throws IllegalStateException");
        // steps that are only thought of are none
        t.run("ahead(5, 0, 0, true); earliest(0, 2000, 1, true); runScript(1, 1000); simulate(1L, 5); unknown(true) = throws IllegalStateException");
    }

    @Holds(promise = 23, sentence = "or if there is no such integer")
    static void noSuchInteger(Checks t) {
        // after the step both states are placed so that one speaks for -3 and the other one for 3
        t.run("plant(N22050r+16+00+00+01r+00+16+00+01o+01+0001o+00+0101); read(0); read(1); step(0, 2); place(0, -3); place(1, 3)",
            "read(0); unknown(false) = -3; unknown(true) = -3; read(1); unknown(true) = throws IllegalStateException",
            "unknown(false) = throws IllegalStateException; undo(); unknown(true) = -3");
        // a multiple of 2 cannot be 1
        t.run("plant(N11050r+16+00+02o+0101); read(0); step(0, 0); place(0, 1); read(0); unknown(true) = throws IllegalStateException",
            "unknown(false) = throws IllegalStateException; step(0, 0); unknown(true) = 5");
    }
}
