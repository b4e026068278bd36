/** Promises 1 and 6 to 10: a new object, and the numbers of the system, of states and of outputs. */
public final class SystemTest {
    /** Two states and three outputs, all numbers different. */
    private static final String WIDE = "plant(N23124r+01-02+03-04r+05+06-07+08o+09-1011o+12+1314o-15+1699g02-17g10+18)";

    public static void main(String[] args) {
        Checks.main(SystemTest.class);
    }

    // ---- promise 1

    @Holds(promise = 1, sentence = "Creates an observer for the plant that is described above.")
    static void newObject(Checks t) {
        t.run("about(0) = 1; about(1) = 1; about(2) = 0; about(3) = 0; about(4) = 0; coefficient(0, 0, 0) = 16",
            "coefficient(1, 0, 0) = 1; coefficient(2, 0, 0) = 0; coefficient(3, 0, 0) = 1; coefficient(4, 0, 0) = 1",
            "coefficient(5, 0, 0) = 0; state(0, 0) = 0; state(0, 1) = -1000; state(0, 2) = 1000; state(0, 3) = 0",
            "state(0, 4) = 0; width() = 2000; errorPosition() = 0; undo() = throws IllegalStateException",
            "restore(0) = throws IllegalStateException; restore(1) = throws IllegalStateException",
            "output(0, 0) = throws IllegalStateException; output(0, 1) = throws IllegalStateException",
            "unknown(false) = throws IllegalStateException; load() = throws IllegalStateException; clearText() = 0");
    }

    @Holds(promise = 1, sentence = "Creates an observer for the plant that is described above.")
    static void objectsDoNotMeet(Checks t) {
        StateObserver x = new StateObserver();
        StateObserver y = new StateObserver();
        x.step(3, 0);
        x.setHold(4);
        x.append('N');
        x.save(0);
        x.read(0);
        t.due("the other object's time", y.about(4), 0);
        t.due("the other object's hold", y.about(3), 0);
        t.due("the other object's text", y.clearText(), 0);
        t.due("the other object's width", y.width(), 2000);
        t.due("a later object's state", new StateObserver().state(0, 0), 0);
        y.step(5, 0);
        t.due("the first object's state", x.state(0, 0), 3);
    }

    // ---- promise 6

    @Holds(promise = 6, sentence = {"Returns a number of the system.", "- `what`: 0: n; 1: p; 2: the bound; 3: the hold; 4:"
        + " the time", "Returns that number."})
    static void numbersOfTheSystem(Checks t) {
        t.run("plant(N23982r+16+00+00+00r+00+16+00+00o+01+0001o+01+0001o+01+0001); about(0) = 2; about(1) = 3; about(2) = 98",
            "about(3) = 2; about(4) = 0; step(0, 0); step(0, 0); setBound(7); setHold(9); about(2) = 7; about(3) = 9",
            "about(4) = 2; about(0) = 2; about(1) = 3; undo(); about(3) = 2; undo(); about(2) = 98; undo(); about(4) = 1");
        t.run("setBound(99); setHold(9); about(2) = 99; about(3) = 9; setBound(0); setHold(0); about(2) = 0; about(3) = 0");
    }

    @Holds(promise = 6, sentence = "Throws `IllegalArgumentException` if what is not 0 to 4")
    static void noSuchNumberOfTheSystem(Checks t) {
        t.run("step(0, 0); about(4) = 1; about(5) = throws IllegalArgumentException; about(-1) = throws IllegalArgumentException",
            "about(2147483647) = throws IllegalArgumentException; about(-2147483648) = throws IllegalArgumentException");
    }

    // ---- promise 7

    @Holds(promise = 7, sentence = {"Returns a number of a matrix or vector.", "- `what`: 0: A; 1: b; 2: e; 3: C; 4: the"
        + " quanta; 5: the gains", "- `i`: the row: a state for A, b, e and the gains, an output for C and the quanta",
        "- `j`: the column: a state for A and C, an output for the gains, 0 for b, e and the quanta", "Returns that number."})
    static void coefficients(Checks t) {
        t.run(WIDE + "; coefficient(0, 0, 0) = 1; coefficient(0, 0, 1) = -2; coefficient(0, 1, 0) = 5; coefficient(0, 1, 1) = 6",
            "coefficient(1, 0, 0) = 3; coefficient(1, 1, 0) = -7; coefficient(2, 0, 0) = -4; coefficient(2, 1, 0) = 8",
            "coefficient(3, 0, 0) = 9; coefficient(3, 0, 1) = -10; coefficient(3, 1, 0) = 12; coefficient(3, 1, 1) = 13",
            "coefficient(3, 2, 0) = -15; coefficient(3, 2, 1) = 16; coefficient(4, 0, 0) = 11; coefficient(4, 1, 0) = 14",
            "coefficient(4, 2, 0) = 99; coefficient(5, 0, 0) = 0; coefficient(5, 0, 2) = -17; coefficient(5, 1, 0) = 18",
            "coefficient(5, 1, 2) = 0; setGain(1, 1, -3); coefficient(5, 1, 1) = -3; undo(); coefficient(5, 1, 1) = 0");
    }

    @Holds(promise = 7, sentence = "Throws `IndexOutOfBoundsException` if there is no such row or column")
    static void noSuchCoefficient(Checks t) {
        int[][] outside = {{0, 2, 0}, {0, 0, 2}, {1, 2, 0}, {1, 0, 1}, {2, 2, 0}, {2, 0, 1}, {3, 3, 0}, {3, 0, 2},
            {4, 3, 0}, {4, 0, 1}, {5, 2, 0}, {5, 0, 3}};
        for (int[] o : outside) {
            t.run(WIDE + "; coefficient(" + o[0] + ", " + o[1] + ", " + o[2] + ") = throws IndexOutOfBoundsException");
        }
        for (int what = 0; what <= 5; what++) {
            for (int wrong : new int[] {-1, 4, Integer.MIN_VALUE, Integer.MAX_VALUE}) {
                t.run(WIDE + "; coefficient(" + what + ", " + wrong + ", 0) = throws IndexOutOfBoundsException",
                    "coefficient(" + what + ", 0, " + wrong + ") = throws IndexOutOfBoundsException");
            }
            t.run("coefficient(" + what + ", 1, 0) = throws IndexOutOfBoundsException",
                "coefficient(" + what + ", 0, 1) = throws IndexOutOfBoundsException",
                "coefficient(" + what + ", 1, 1) = throws IndexOutOfBoundsException");
        }
        // more outputs than states, and more states than outputs
        t.run("plant(N13000r+16+01+00o+0101o+0202o+0303); coefficient(3, 2, 0) = 3; coefficient(4, 2, 0) = 3",
            "coefficient(5, 0, 2) = 0; coefficient(0, 2, 0) = throws IndexOutOfBoundsException",
            "coefficient(1, 2, 0) = throws IndexOutOfBoundsException; coefficient(5, 2, 0) = throws IndexOutOfBoundsException");
        t.run("plant(N31000r+16+00+00+00+00r+00+16+00+00+00r+00+00+16+00+00o+01+00+0001); coefficient(0, 2, 2) = 16",
            "coefficient(5, 2, 0) = 0; coefficient(3, 0, 2) = 0; coefficient(3, 2, 0) = throws IndexOutOfBoundsException",
            "coefficient(4, 2, 0) = throws IndexOutOfBoundsException; coefficient(5, 0, 2) = throws IndexOutOfBoundsException");
    }

    @Holds(promise = 7,
        sentence = "Throws `IllegalArgumentException` if what is not 0 to 5 (i and j are not examined then)")
    static void noSuchMatrix(Checks t) {
        for (int what : new int[] {-1, 6, Integer.MIN_VALUE, Integer.MAX_VALUE}) {
            t.run("coefficient(" + what + ", 0, 0) = throws IllegalArgumentException",
                "coefficient(" + what + ", -1, 0) = throws IllegalArgumentException",
                "coefficient(" + what + ", 0, 9) = throws IllegalArgumentException",
                "coefficient(" + what + ", 2147483647, -2147483648) = throws IllegalArgumentException");
        }
    }

    // ---- promise 8

    @Holds(promise = 8, sentence = {"Returns a number of a state.", "- `i`: state", "- `what`: 0: the true value; 1: the"
        + " lower bound; 2: the upper bound; 3: the estimate in sixteenths;", "Returns that number."})
    static void numbersOfAState(Checks t) {
        t.run("plant(N21050r+10-07+02+01r+03+05-01-03o+01+0001); place(0, 7); place(1, -9); step(4, -2)",
            "state(0, 0) = 14; state(0, 1) = -1060; state(0, 2) = 1075; state(0, 3) = 128",
            "state(1, 0) = 0; state(1, 1) = -519; state(1, 2) = 511; state(1, 3) = -64");
    }

    @Holds(promise = 8, sentence = "4: the estimate in sixteenths, brought into the interval: 16 times the lower bound if it"
        + " is less than that, 16 times the upper bound if it is greater than that")
    static void estimateInTheInterval(Checks t) {
        t.run("place(0, 250); read(0); state(0, 3) = 0; state(0, 4) = 4000");
        t.run("place(0, -250); read(0); state(0, 3) = 0; state(0, 4) = -4000");
        t.run("step(9, 0); state(0, 3) = 144; state(0, 4) = 144");
        // a sixteenth inside, at the end, and a sixteenth outside, at both ends of the interval from 0 to 1
        String narrow = "plant(N22000r+16+00+00+00r+00+16+00+00o+01+0002o+00+0002); read(0); setGain(0, 1, 2); read(1); ";
        t.run(narrow + "15 times step(0, 0); state(0, 3) = 1; state(0, 4) = 1");
        t.run(narrow + "setHold(9); setGain(0, 1, 30); step(0, 0); state(0, 3) = 15; state(0, 4) = 15; setGain(0, 1, 2)",
            "step(0, 0); state(0, 3) = 16; state(0, 4) = 16; step(0, 0); state(0, 3) = 17; state(0, 4) = 16");
        t.run(narrow + "setHold(9); step(0, 0); state(0, 3) = 1; setGain(0, 1, -2); step(0, 0); state(0, 3) = 0; state(0, 4) = 0",
            "step(0, 0); state(0, 3) = -1; state(0, 4) = 0");
        // the greatest bounds
        String growing = "plant(N11000r+99+00+00o+0101); place(0, ";
        t.run(growing + "1000); read(0); 4 times step(0, 0); state(0, 1) = 1000000; state(0, 3) = 0; state(0, 4) = 16000000");
        t.run(growing + "-1000); read(0); 4 times step(0, 0); state(0, 2) = -1000000; state(0, 3) = 0; state(0, 4) = -16000000");
    }

    @Holds(promise = 8, sentence = "Throws `IndexOutOfBoundsException` if there is no such state")
    static void noSuchState(Checks t) {
        t.run("state(1, 0) = throws IndexOutOfBoundsException; state(-1, 0) = throws IndexOutOfBoundsException",
            "state(3, 4) = throws IndexOutOfBoundsException; state(4, 0) = throws IndexOutOfBoundsException",
            "state(2147483647, 0) = throws IndexOutOfBoundsException; state(-2147483648, 3) = throws IndexOutOfBoundsException",
            "state(1, 5) = throws IndexOutOfBoundsException; state(-1, -1) = throws IndexOutOfBoundsException");
        t.run(WIDE + "; state(1, 0) = 0; state(2, 0) = throws IndexOutOfBoundsException");
    }

    @Holds(promise = 8, sentence = "Throws `IllegalArgumentException` if what is not 0 to 4")
    static void noSuchNumberOfAState(Checks t) {
        t.run("state(0, 5) = throws IllegalArgumentException; state(0, -1) = throws IllegalArgumentException",
            "state(0, 2147483647) = throws IllegalArgumentException; state(0, -2147483648) = throws IllegalArgumentException");
    }

    // ---- promise 9

    @Holds(promise = 9, sentence = {"Returns a number of an output.", "- `k`: output", "- `what`: 0: the last reading; 1: the"
        + " age;", "Returns that number."})
    static void lastReadingAndAge(Checks t) {
        t.run("plant(N12000r+16+01+00o+0307o-0101); place(0, -1); read(0) = -1; output(0, 0) = -1; output(0, 1) = 0",
            "output(1, 0) = throws IllegalStateException; step(5, 0); output(0, 0) = -1; output(0, 1) = 1; read(1) = -4",
            "output(1, 0) = -4; output(1, 1) = 0; output(0, 0) = -1; output(0, 1) = 1; read(0) = 1; output(0, 0) = 1");
        // a value that is placed does not change the last reading
        t.run("plant(N21000r+16+00+00+00r+00+16+00+00o+01+0110); read(0) = 0; place(0, 9) = 0; output(0, 0) = 0; step(0, 0)",
            "place(0, 99) = 9; output(0, 0) = 0; output(0, 1) = 1");
    }

    @Holds(promise = 9, sentence = {"2: the smallest reading that the intervals allow, floor(least value of the sum of C(k, j)"
        + " times state j / quantum);", "3: the greatest one, likewise with the greatest value"})
    static void smallestAndGreatestReading(Checks t) {
        t.run("plant(N11000r+16+01+00o+0307); output(0, 2) = -429; output(0, 3) = 428; place(0, -1); read(0) = -1",
            "output(0, 2) = -1; output(0, 3) = -1; step(5, 0); output(0, 2) = 1; output(0, 3) = 1");
        t.run("plant(N11000r+16+01+00o-0307); step(99, 0); output(0, 2) = -471; output(0, 3) = 386");
        t.run("plant(N21000r+16+00+01+00r+00+16+00+00o+00+0001); output(0, 2) = 0; output(0, 3) = 0");
        t.run("plant(N11000r+99+00+00o+9901); 4 times step(0, 0); output(0, 2) = -99000000; output(0, 3) = 99000000");
    }

    @Holds(promise = 9, sentence = "Throws `IndexOutOfBoundsException` if there is no such output")
    static void noSuchOutput(Checks t) {
        t.run("output(1, 2) = throws IndexOutOfBoundsException; output(-1, 2) = throws IndexOutOfBoundsException",
            "output(3, 3) = throws IndexOutOfBoundsException; output(1, 0) = throws IndexOutOfBoundsException",
            "output(2147483647, 2) = throws IndexOutOfBoundsException; output(-2147483648, 1) = throws IndexOutOfBoundsException",
            "output(1, 4) = throws IndexOutOfBoundsException; output(-1, -1) = throws IndexOutOfBoundsException");
        t.run(WIDE + "; output(2, 2) = -314; output(3, 2) = throws IndexOutOfBoundsException");
    }

    @Holds(promise = 9, sentence = "Throws `IllegalArgumentException` if what is not 0 to 3")
    static void noSuchNumberOfAnOutput(Checks t) {
        t.run("output(0, 4) = throws IllegalArgumentException; output(0, -1) = throws IllegalArgumentException",
            "output(0, 2147483647) = throws IllegalArgumentException; output(0, -2147483648) = throws IllegalArgumentException",
            "read(0); output(0, 4) = throws IllegalArgumentException; output(0, -1) = throws IllegalArgumentException");
    }

    @Holds(promise = 9, sentence = "Throws `IllegalStateException` if what is 0 or 1 and the output was never read")
    static void outputThatWasNeverRead(Checks t) {
        t.run("output(0, 0) = throws IllegalStateException; output(0, 1) = throws IllegalStateException; output(0, 2) = -1000",
            "output(0, 3) = 1000; step(0, 0); output(0, 0) = throws IllegalStateException",
            "output(0, 1) = throws IllegalStateException; read(0) = 0; output(0, 0) = 0; output(0, 1) = 0; undo()",
            "output(0, 0) = throws IllegalStateException; output(0, 1) = throws IllegalStateException");
        t.run("save(0); read(0); restore(0); output(0, 1) = throws IllegalStateException");
        t.run("widthIf(0, 5) = 0; runScript(1, 3000) = NONE; simulate(1L, 9); output(0, 0) = throws IllegalStateException");
    }

    // ---- promise 10

    @Holds(promise = 10, sentence = "Returns the sum of all widths, upper bound minus lower bound, of the intervals.")
    static void sumOfWidths(Checks t) {
        t.run("width() = 2000; read(0); width() = 0");
        t.run("plant(N42000r+16+00+00+00+00+00r+00+16+00+00+00+00r+00+00+16+00+00+00r+00+00+00+16+00+00o+01+00+00+0005"
            + "o+00+00+00+0101); width() = 8000; read(0); width() = 6004; read(1); width() = 4004");
        t.run("plant(N11990r+99+99+99o+0101); 4 times step(99, 0); width() = 2000000");
        t.run("plant(N41000r+99+00+00+00+00+00r+00+99+00+00+00+00r+00+00+99+00+00+00r+00+00+00+99+00+00o+01+00+00+0001)",
            "4 times step(0, 0); width() = 8000000");
    }
}
