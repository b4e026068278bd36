/** What the document says of intervals, conditions and tightening. */
public final class IntervalsTest {
    /** Two states that stay as they are; the output is their sum, or their sum divided by 10. */
    private static final String SUM = "plant(N21000r+16+00+00+00r+00+16+00+00o+01+0101)";
    private static final String TENTH = "plant(N21000r+16+00+00+00r+00+16+00+00o+01+0110)";
    /** State 0 grows until it is limited; state 1 becomes state 0 plus the input, and the unknown input does what it likes. */
    private static final String GROWING = "plant(N21010r+99+00+00+00r+16+00+01+01o+01+0001)";

    public static void main(String[] args) {
        Checks.main(IntervalsTest.class);
    }

    @Holds(promise = {1, 8, 11}, in = "INTERVALS", sentence = "Each state has an interval from its lower to its upper"
        + " bound, both included, -1000 to 1000 at first.")
    static void intervalsAtFirst(Checks t) {
        t.run("state(0, 1) = -1000; state(0, 2) = 1000; canBe(-1000, 0, 0, 0) = true; canBe(1000, 0, 0, 0) = true",
            "canBe(-1001, 0, 0, 0) = false; canBe(1001, 0, 0, 0) = false; place(0, 1000) = 0; place(0, -1000) = 1000",
            "place(0, 1001) = throws IllegalStateException; place(0, -1001) = throws IllegalStateException");
        t.run(SUM + "; state(0, 1) = -1000; state(0, 2) = 1000; state(1, 1) = -1000; state(1, 2) = 1000");
    }

    @Holds(promise = {9, 12, 29}, in = "INTERVALS", sentence = "A combination of states is a sum of integer factors times"
        + " states; its least and its greatest value over the intervals are found by choosing, for each state, the bound"
        + " that makes its product smallest or greatest.")
    static void leastAndGreatestValue(Checks t) {
        // after the step state 0 is from -990 to 1010, state 1 from -980 to 1020, and state 2 from -970 to 1030
        String shifted = "r+16+00+00+01+00r+00+16+00+02+00r+00+00+16+03+00";
        t.run("plant(N33000" + shifted + "o+02-03+0001o-01+00-0101o+01+01+0101); step(10, 0)",
            "output(0, 2) = -5040; output(0, 3) = 4960; output(1, 2) = -2040; output(1, 3) = 1960",
            "output(2, 2) = -2940; output(2, 3) = 3060");
        t.run("plant(N32000" + shifted + "o+00+00+0001o+00+00-9901); step(10, 0); output(0, 2) = 0; output(0, 3) = 0",
            "output(1, 2) = -101970; output(1, 3) = 96030");
    }

    @Holds(promise = 12, in = "INTERVALS",
        sentence = "In a step, the lower bound of state i becomes floor(t / 16) + b(i) * u - |e(i)| * bound,")
    static void lowerBoundInAStep(Checks t) {
        t.run("plant(N11040r-16+01-02o+0101); step(3, -1); state(0, 1) = -1005; step(-3, 0); state(0, 1) = -1022");
        t.run("plant(N11040r-16+01-02o+0101); place(0, 10); read(0); step(3, -1); state(0, 1) = -15; state(0, 0) = -5");
        // the sum, -5000 at least, is rounded before the inputs are added
        t.run("plant(N11010r+05+01+01o+0101); step(1, 1); state(0, 1) = -313");
        t.run("plant(N11990r+16+99+99o+0101); step(99, 0); state(0, 1) = -1000; step(-99, 0); state(0, 1) = -20602");
        t.run("plant(N11990r+16+99-99o+0101); step(99, 0); state(0, 1) = -1000; step(-99, 0); state(0, 1) = -20602");
    }

    @Holds(promise = 12, in = "INTERVALS", sentence = "the upper bound becomes floor(t / 16) + b(i) * u + |e(i)| * bound,"
        + " limited likewise, with the greatest value as t.")
    static void upperBoundInAStep(Checks t) {
        t.run("plant(N11040r-16+01-02o+0101); step(3, -1); state(0, 2) = 1011; step(-3, 0); state(0, 2) = 1010");
        t.run("plant(N11040r-16+01-02o+0101); place(0, 10); read(0); step(3, -1); state(0, 2) = 1");
        t.run("plant(N11010r+05+01+01o+0101); step(1, 1); state(0, 2) = 314");
        t.run("plant(N11990r+16+99+99o+0101); step(99, 0); state(0, 2) = 20602; step(-99, 0); state(0, 2) = 20602");
        t.run("plant(N11990r+16+99-99o+0101); step(99, 0); state(0, 2) = 20602; step(-99, 0); state(0, 2) = 20602");
        t.run(GROWING + "; place(0, 1000); read(0); 4 times step(0, 0); step(-2, 0); state(1, 2) = 999999",
            "undo(); step(-1, 0); state(1, 2) = 1000000; undo(); step(0, 0); state(1, 2) = 1000000",
            "undo(); step(99, 0); state(1, 2) = 1000000");
        t.run(GROWING + "; place(0, -1000); read(0); 4 times step(0, 0); step(0, 0); state(1, 2) = -999999",
            "undo(); step(-1, 0); state(1, 2) = -1000000; undo(); step(-2, 0); state(1, 2) = -1000000",
            "undo(); step(-99, 0); state(1, 2) = -1000000");
    }

    @Holds(promise = 12, in = "INTERVALS", sentence = "limited to -1000000 to 1000000,")
    static void boundsAreLimited(Checks t) {
        t.run(GROWING + "; place(0, -1000); read(0); 4 times step(0, 0); step(2, 0); state(1, 1) = -999999",
            "undo(); step(1, 0); state(1, 1) = -1000000; undo(); step(0, 0); state(1, 1) = -1000000",
            "undo(); step(-99, 0); state(1, 1) = -1000000");
        t.run(GROWING + "; place(0, 1000); read(0); 4 times step(0, 0); step(0, 0); state(1, 1) = 999999",
            "undo(); step(1, 0); state(1, 1) = 1000000; undo(); step(2, 0); state(1, 1) = 1000000",
            "undo(); step(99, 0); state(1, 1) = 1000000; state(1, 2) = 1000000");
        t.run("plant(N11990r+99+99+99o+0101); step(99, 99); state(0, 1) = -6188; state(0, 2) = 25789; 3 times step(99, 99)",
            "state(0, 1) = -1000000; state(0, 2) = 1000000; width() = 2000000");
    }

    @Holds(promise = 12, in = "INTERVALS",
        sentence = "where t is the least value of the sum of A(i, j) times state j over the intervals before the step;")
    static void boundsBeforeTheStep(Checks t) {
        t.run("plant(N21050r+10-07+02+01r+03+05-01-03o+01+0001); step(4, -2); state(0, 1) = -1060; state(0, 2) = 1075",
            "state(1, 1) = -519; state(1, 2) = 511; step(0, 0); state(0, 1) = -892; state(0, 2) = 903",
            "state(1, 1) = -376; state(1, 2) = 376");
        t.run("plant(N21000r+16+16+00+00r+16+32+00+00o+01+0001); step(0, 0); state(0, 1) = -2000; state(0, 2) = 2000",
            "state(1, 1) = -3000; state(1, 2) = 3000");
    }

    @Holds(promise = {12, 13, 18, 19, 33}, in = "INTERVALS", sentence = "An output is fresh if it was read since the last"
        + " step (or since the beginning, if there was no step).")
    static void freshOutputs(Checks t) {
        t.run(SUM + "; canBe(1, 0, 0, 0) = true; read(0) = 0; canBe(1, 0, 0, 0) = false; canBe(1, -1, 0, 0) = true",
            "step(0, 0); canBe(1, 0, 0, 0) = true; read(0) = 0; canBe(1, 0, 0, 0) = false; undo()",
            "canBe(1, 0, 0, 0) = true; undo(); canBe(1, 0, 0, 0) = false; undo(); canBe(1, 0, 0, 0) = true");
        t.run(SUM + "; read(0); save(0); step(0, 0); save(1); canBe(1, 0, 0, 0) = true; restore(0); canBe(1, 0, 0, 0) = false",
            "restore(1); canBe(1, 0, 0, 0) = true");
        t.run(SUM + "; read(0); setHold(3); setBound(4); setGain(0, 0, 5); place(0, 0); shave(0, 5); canBe(1, 0, 0, 0) = false");
        t.run(SUM + "; read(0); canBe(1, 0, 0, 0) = false; load(); canBe(1, 0, 0, 0) = true");
        t.run("plant(N22000r+16+00+00+00r+00+16+00+00o+01+0101o+01-0101); read(1); canBe(1, 1, 0, 0) = true",
            "canBe(1, -1, 0, 0) = false; step(0, 0); read(0); canBe(1, 1, 0, 0) = false; canBe(1, -1, 0, 0) = true");
    }

    @Holds(promise = {11, 13, 19}, in = "INTERVALS", sentence = "A fresh output k with the reading y gives the condition"
        + " that the sum of C(k, j) times state j is from quantum(k) * y to quantum(k) * y + quantum(k) - 1.")
    static void rangeOfACondition(Checks t) {
        t.run(TENTH + "; read(0) = 0; canBe(0, 0, 0, 0) = true; canBe(9, 0, 0, 0) = true; canBe(10, 0, 0, 0) = false",
            "canBe(0, -1, 0, 0) = false; canBe(500, -491, 0, 0) = true; canBe(500, -490, 0, 0) = false");
        t.run(TENTH + "; place(0, -1); read(0) = -1; canBe(-1, 0, 0, 0) = true; canBe(0, 0, 0, 0) = false",
            "canBe(-5, -5, 0, 0) = true; canBe(-5, -6, 0, 0) = false");
        t.run("plant(N11000r+16+01+00o+0110); place(0, -1); read(0) = -1; state(0, 1) = -10; state(0, 2) = -1");
        t.run("plant(N11000r+16+01+00o+0199); place(0, 99); read(0) = 1; state(0, 1) = 99; state(0, 2) = 197");
        t.run("plant(N11000r+16+01+00o+0101); place(0, 99); read(0) = 99; state(0, 1) = 99; state(0, 2) = 99");
    }

    @Holds(promise = {13, 20}, in = "INTERVALS", sentence = {"Tightening consists of passes.", "In a pass, for each fresh"
        + " output k in the order of their numbers, for each state j with C(k, j) different from 0 in the order of their"
        + " numbers, let m and M be the least and the greatest value of the sum of C(k, i) times state i over all other"
        + " states i, with the intervals as they are at this moment;"})
    static void orderWithinAPass(Checks t) {
        // x0 = x1 and x1 = x0 + 1 by turns: after pass t, x0 is from t - 1001 to 1000 - t, and x1 from t - 1000 to 1001 - t
        t.run("plant(N22000r+16+00+00+00r+00+16+00+00o+01-0101o-01+0101); read(0) = 0; widthIf(1, 1) = 3602");
        // the same with the outputs changed over: after pass t both are from t - 1000 to 1000 - t
        t.run("plant(N22000r+16+00+00+00r+00+16+00+00o-01+0101o+01-0101); read(1) = 0; widthIf(0, 1) = 3600");
        // with these factors the order of the states shows, too
        t.run("plant(N22000r+16+00+00+00r+00+16+00+00o+07-0608o-06+0503); read(0) = 0; read(1) = 0; width() = 209");
        t.run("plant(N22000r+16+00+00+00r+00+16+00+00o-06+0708o+05-0603); read(0) = 0; read(1) = 0; width() = 210");
    }

    @Holds(promise = {13, 20}, in = "INTERVALS", sentence = "the interval of state j is cut down to those integers x in it"
        + " for which C(k, j) * x + M is at least the lower end and C(k, j) * x + m at most the upper end of the range that"
        + " the condition of output k names.")
    static void intervalIsCutDown(Checks t) {
        t.run(SUM + "; place(0, 1000); place(1, 500); read(0) = 1500; state(0, 1) = 500; state(0, 2) = 1000",
            "state(1, 1) = 500; state(1, 2) = 1000");
        t.run(SUM + "; place(0, -1000); place(1, -500); read(0) = -1500; state(0, 1) = -1000; state(0, 2) = -500",
            "state(1, 1) = -1000; state(1, 2) = -500");
        // 3 * x from 7 to 13, that is 3 to 4; the same numbers with -3
        t.run("plant(N11000r+16+01+00o+0307); place(0, 3); read(0) = 1; state(0, 1) = 3; state(0, 2) = 4");
        t.run("plant(N11000r+16+01+00o-0307); place(0, -3); read(0) = 1; state(0, 1) = -4; state(0, 2) = -3");
        // 3 * x from -14 to -8, that is -4 to -3; the same numbers with -3
        t.run("plant(N11000r+16+01+00o+0307); place(0, -3); read(0) = -2; state(0, 1) = -4; state(0, 2) = -3");
        t.run("plant(N11000r+16+01+00o-0307); place(0, 3); read(0) = -2; state(0, 1) = 3; state(0, 2) = 4");
        // both ends are multiples of the factor: 3 * x from 9 to 17, and from 0 to 6
        t.run("plant(N11000r+16+01+00o+0309); place(0, 4); read(0) = 1; state(0, 1) = 3; state(0, 2) = 5");
        t.run("plant(N11000r+16+01+00o+0307); read(0) = 0; state(0, 1) = 0; state(0, 2) = 2");
        // a state with the factor 0 keeps its interval
        t.run("plant(N21000r+16+00+00+00r+00+16+00+00o+00+0101); read(0) = 0; width() = 2000; state(0, 1) = -1000");
        t.run("plant(N22000r+16+00+00+00r+00+16+00+00o+01-0203o+01+0010); place(0, 25); place(1, 7); read(0) = 3",
            "state(0, 1) = -1000; state(0, 2) = 1000; state(1, 1) = -505; state(1, 2) = 495; read(1) = 2",
            "state(0, 1) = 20; state(0, 2) = 29; state(1, 1) = 5; state(1, 2) = 10");
    }

    @Holds(promise = {13, 20}, in = "INTERVALS",
        sentence = "Passes are made until one of them changes nothing or 100 passes were made.")
    static void hundredPasses(Checks t) {
        String opposed = "plant(N22000r+16+00+00+00r+00+16+00+00o+01-0101o-01+0101); ";
        // two values go in the first pass, four in each other one: the hundredth is made, and no more
        t.run(opposed + "read(0) = 0; widthIf(1, 1) = 3602; widthIf(1, 0) = 4000; width() = 4000");
        // reading once more goes on where the hundred passes ended
        t.run("plant(N22000r+16+00+00+00r+00+16+00+00o+07-0608o-06+0503); read(0) = 0; read(1) = 0; width() = 209",
            "read(0) = 0; width() = 103; read(1) = 0; width() = 103");
        // narrow intervals are empty before the hundredth pass
        t.run("plant(N23000r+16+00+00+00r+00+16+00+00o+01-0101o-01+0101o+01+0099); read(2); widthIf(1, 1) = 196",
            "read(0) = 0; widthIf(1, 1) = NONE; widthIf(1, 0) = 196");
    }

    @Holds(promise = {14, 20}, in = "INTERVALS",
        sentence = "If an interval becomes empty, the tightening fails and ends at once.")
    static void emptyInterval(Checks t) {
        t.run(SUM + "; widthIf(0, 2000) = 0; widthIf(0, 2001) = NONE; widthIf(0, -2000) = 0; widthIf(0, -2001) = NONE");
        t.run("plant(N11000r+16+01+00o+0201); widthIf(0, 2000) = 0; widthIf(0, 1999) = NONE; widthIf(0, 2001) = NONE",
            "widthIf(0, -1999) = NONE; widthIf(0, -2000) = 0");
        t.run(SUM + "; place(0, 1000); place(1, 999); read(0) = 1999; state(0, 1) = 999; shave(0, 100) = 0; width() = 2",
            "place(0, 999) = throws IllegalStateException");
    }
}
