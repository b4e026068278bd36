/** What the document says of the plant. */
public final class PlantTest {
    /** Four states that stay as they are, and three outputs, of which output k shows state k + 1. */
    private static final String LARGEST = "plant(N43000r+16+00+00+00+00+00r+00+16+00+00+00+00r+00+00+16+00+00+00"
        + "r+00+00+00+16+00+00o+00+01+00+0001o+00+00+01+0001o+00+00+00+0101)";
    /** State 0 grows until it is limited; state 1 becomes state 0 plus the input. */
    private static final String GROWING = "plant(N21000r+99+00+00+00r+16+00+01+00o+01+0001)";

    public static void main(String[] args) {
        Checks.main(PlantTest.class);
    }

    @Holds(promise = {1, 8}, in = "What it is", sentence = "A state observer for linear systems in fixed point whose"
        + " outputs are quantized, of which samples can be missing, and which have an input that nobody knows. It"
        + " simulates the plant, keeps for each state an interval that always contains the true value, runs a"
        + " Luenberger estimator beside it, bounds the unknown input, and examines observability, also with the unknown"
        + " input, by ranks.")
    static void intervalContainsTheTrueValue(Checks t) {
        for (int seed = 0; seed < 60; seed++) {
            StateObserver x = new StateObserver();
            String text = "N22090r+" + (10 + seed % 20) + "-07+01+02r+05+" + (40 - seed % 30) + "-02+01o+01+0103o-02+01" + (10 + seed);
            for (int i = 0; i < text.length(); i++) {
                x.append(text.charAt(i));
            }
            x.load();
            for (int turn = 0; turn < 100; turn++) {
                int choice = (turn * 7 + seed * 13) % 11;
                if (choice < 5) {
                    x.step(turn * 37 % 199 - 99, (turn * 5 + seed) % 19 - 9);
                } else if (choice < 9) {
                    x.read(choice % 2);
                } else {
                    x.shave(choice % 2, 1 + turn);
                }
                for (int i = 0; i < 2; i++) {
                    t.due("state(" + i + ", 0) is inside", x.state(i, 1) <= x.state(i, 0) && x.state(i, 0) <= x.state(i, 2), true);
                }
            }
        }
    }

    @Holds(promise = {12, 18}, in = "What it is",
        sentence = "An object is used for at most 512 calls after it has been made; what later calls answer is free.")
    static void lastOfThe512Calls(Checks t) {
        StateObserver x = new StateObserver();
        for (int call = 1; call <= 505; call++) {
            x.step(call % 2 == 0 ? 0 : 1, 0);
        }
        t.due("about(4) as call 506", x.about(4), 505);
        t.due("state(0, 0) as call 507", x.state(0, 0), 253);
        t.due("read(0) as call 508", x.read(0), 253);
        t.due("undo() as call 509", x.undo(), 13);
        t.due("undo() as call 510", x.undo(), 12);
        t.due("state(0, 0) as call 511", x.state(0, 0), 252);
        t.due("about(4) as call 512", x.about(4), 504);
    }

    @Holds(promise = {5, 6, 8, 9}, in = "THE PLANT",
        sentence = "The plant has n states, 1 to 4, numbered from 0, and p outputs, 1 to 3, numbered from 0.")
    static void numbersOfStatesAndOutputs(Checks t) {
        t.run(LARGEST + " = 4; about(0) = 4; about(1) = 3; state(0, 2) = 1000; state(3, 2) = 1000; output(0, 3) = 1000",
            "output(2, 3) = 1000; state(4, 2) = throws IndexOutOfBoundsException",
            "output(3, 3) = throws IndexOutOfBoundsException; state(-1, 2) = throws IndexOutOfBoundsException",
            "output(-1, 3) = throws IndexOutOfBoundsException");
        t.run("about(0) = 1; about(1) = 1; state(0, 2) = 1000; output(0, 3) = 1000",
            "state(1, 2) = throws IndexOutOfBoundsException; output(1, 3) = throws IndexOutOfBoundsException");
    }

    @Holds(promise = {5, 7}, in = "THE PLANT", sentence = "It is described by integers from -99 to 99: a matrix A of n"
        + " rows and n columns, vectors b and e with n components, a matrix C of p rows and n columns; a quantum for each"
        + " output, 1 to 99; and a bound, 0 to 99.")
    static void greatestAndLeastIntegers(Checks t) {
        t.run("plant(N22990r-99+99-99+99r+98-98+99-99o-99+9899o+99-9801) = 2; about(2) = 99",
            "coefficient(0, 0, 0) = -99; coefficient(0, 0, 1) = 99; coefficient(0, 1, 0) = 98; coefficient(0, 1, 1) = -98",
            "coefficient(1, 0, 0) = -99; coefficient(1, 1, 0) = 99; coefficient(2, 0, 0) = 99; coefficient(2, 1, 0) = -99",
            "coefficient(3, 0, 0) = -99; coefficient(3, 0, 1) = 98; coefficient(3, 1, 0) = 99; coefficient(3, 1, 1) = -98",
            "coefficient(4, 0, 0) = 99; coefficient(4, 1, 0) = 1");
        t.run("plant(N11000r-00+00-00o+0001) = 1; about(2) = 0; coefficient(0, 0, 0) = 0; coefficient(1, 0, 0) = 0",
            "coefficient(2, 0, 0) = 0; coefficient(3, 0, 0) = 0; coefficient(4, 0, 0) = 1");
    }

    @Holds(promise = {1, 6, 7}, in = "THE PLANT", sentence = "A new object has one state, one output, A = (16), b = (1),"
        + " e = (0), C = (1), the quantum 1 and the bound 0.")
    static void newObject(Checks t) {
        t.run("about(0) = 1; about(1) = 1; coefficient(0, 0, 0) = 16; coefficient(1, 0, 0) = 1; coefficient(2, 0, 0) = 0",
            "coefficient(3, 0, 0) = 1; coefficient(4, 0, 0) = 1; about(2) = 0");
    }

    @Holds(promise = {12, 13}, in = "THE PLANT",
        sentence = "\"floor\" means rounding towards negative infinity, also for negative numbers.")
    static void floorOfNegativeNumbers(Checks t) {
        String sixteenth = "plant(N11000r+01+00+00o+0110); ";
        int[] values = {-17, -16, -15, -1, 0, 15, 16, 17};
        int[] floors = {-2, -1, -1, -1, 0, 0, 1, 1};
        for (int i = 0; i < values.length; i++) {
            t.run(sixteenth + "place(0, " + values[i] + ") = 0; step(0, 0) = 1; state(0, 0) = " + floors[i]);
        }
        int[] sums = {-11, -10, -9, -1, 0, 9, 10, 11};
        int[] readings = {-2, -1, -1, -1, 0, 0, 1, 1};
        for (int i = 0; i < sums.length; i++) {
            t.run(sixteenth + "place(0, " + sums[i] + ") = 0; read(0) = " + readings[i]);
        }
        t.run(sixteenth + "output(0, 2) = -100; step(0, 0); state(0, 1) = -63; state(0, 2) = 62; output(0, 2) = -7; output(0, 3) = 6");
    }

    @Holds(promise = 12, in = "THE PLANT",
        sentence = "Limiting a number to -m to m means that it becomes m if it is greater, and -m if it is less than -m.")
    static void limitIsReachedAndPassed(Checks t) {
        t.run(GROWING + "; place(0, 1000); 4 times step(0, 0); state(0, 0) = 1000000; step(-1, 0); state(1, 0) = 999999",
            "undo(); step(0, 0); state(1, 0) = 1000000; undo(); step(1, 0); state(1, 0) = 1000000",
            "undo(); step(99, 0); state(1, 0) = 1000000");
        t.run(GROWING + "; place(0, -1000); 4 times step(0, 0); state(0, 0) = -1000000; step(1, 0); state(1, 0) = -999999",
            "undo(); step(0, 0); state(1, 0) = -1000000; undo(); step(-1, 0); state(1, 0) = -1000000",
            "undo(); step(-99, 0); state(1, 0) = -1000000");
    }

    @Holds(promise = {1, 5, 8}, in = "THE PLANT", sentence = "The true value of each state is an int, 0 at first.")
    static void trueValuesAtFirst(Checks t) {
        t.run("state(0, 0) = 0");
        t.run(LARGEST + "; state(0, 0) = 0; state(1, 0) = 0; state(2, 0) = 0; state(3, 0) = 0");
        t.run("type(N11000r+16+01+00o+0101); place(0, 7); load() = 1; state(0, 0) = 0");
    }

    @Holds(promise = 12, in = "THE PLANT", sentence = "In a step with the input u and the unknown input d, which is from"
        + " -bound to bound, the true value of state i becomes floor(s / 16) + b(i) * u + e(i) * d,")
    static void trueValueInAStep(Checks t) {
        t.run("plant(N11030r+16+02-05o+0101); place(0, 10); step(4, 3) = 1; state(0, 0) = 3; step(-4, -3) = 2; state(0, 0) = 10",
            "step(0, 4) = throws IllegalArgumentException; step(0, -4) = throws IllegalArgumentException");
        t.run("plant(N11990r+00+99+99o+0101); step(99, 99); state(0, 0) = 19602; step(-99, -99); state(0, 0) = -19602");
        // the sum is rounded before the inputs are added
        t.run("plant(N11010r+05+01+01o+0101); place(0, -5); step(1, 1); state(0, 0) = 0; step(-1, -1); state(0, 0) = -2");
    }

    @Holds(promise = 12, in = "THE PLANT", sentence = "limited to -1000000 to 1000000,")
    static void trueValueIsLimited(Checks t) {
        t.run("plant(N11990r+99+99+99o+0101); step(99, 99); state(0, 0) = 19602; step(99, 99); state(0, 0) = 140889",
            "step(99, 99); state(0, 0) = 891352; step(99, 99); state(0, 0) = 1000000; step(99, 99); state(0, 0) = 1000000",
            "step(-99, -99); state(0, 0) = 1000000");
        t.run("plant(N11990r+99+99+99o+0101); 4 times step(-99, -99); state(0, 0) = -1000000; step(-99, -99)",
            "state(0, 0) = -1000000");
    }

    @Holds(promise = 12, in = "THE PLANT",
        sentence = "where s is the sum of A(i, j) times the true value of state j before the step.")
    static void trueValuesBeforeTheStep(Checks t) {
        t.run("plant(N21000r+16+16+00+00r+16+32+00+00o+01+0001); place(0, 3); place(1, 5); step(0, 0)",
            "state(0, 0) = 8; state(1, 0) = 13");
        t.run("plant(N21050r+10-07+02+01r+03+05-01-03o+01+0001); place(0, 7); place(1, -9); step(4, -2)",
            "state(0, 0) = 14; state(1, 0) = 0");
        t.run("plant(N41000r+00+16+00+00+00+00r+00+00+16+00+00+00r+00+00+00+16+00+00r+16+00+00+00+00+00o+01+00+00+0001)",
            "place(0, 1); place(1, 2); place(2, 3); place(3, 4); step(0, 0)",
            "state(0, 0) = 2; state(1, 0) = 3; state(2, 0) = 4; state(3, 0) = 1");
    }

    @Holds(promise = 13, in = "THE PLANT", sentence = "The reading of output k is floor((the sum of C(k, j) times the true"
        + " value of state j) / quantum(k)).")
    static void readingOfAnOutput(Checks t) {
        t.run("plant(N22000r+16+00+00+00r+00+16+00+00o+02-0307o-99+9901); place(0, 10); place(1, 20)",
            "read(0) = -6; read(1) = 990");
        t.run("plant(N22000r+16+00+00+00r+00+16+00+00o+02-0307o-99+9901); place(0, 10); place(1, 2); read(0) = 2");
        t.run("plant(N11000r+16+00+00o+0099); place(0, 1000); read(0) = 0");
        t.run("plant(N11000r+16+00+00o-9901); place(0, 1000); read(0) = -99000");
        t.run("plant(N11000r+16+00+00o-0199); place(0, 1); read(0) = -1; place(0, 99) = 1; read(0) = -1",
            "place(0, 100) = throws IllegalStateException");
    }

    @Holds(promise = {12, 13}, in = "THE PLANT", sentence = "The reading of output k is floor((the sum of C(k, j) times the"
        + " true value of state j) / quantum(k)).")
    static void greatestReading(Checks t) {
        String four = "r+99+00+00+00+00+00r+00+99+00+00+00+00r+00+00+99+00+00+00r+00+00+00+99+00+00";
        String places = "; place(0, 1000); place(1, 1000); place(2, 1000); place(3, 1000); 4 times step(0, 0); ";
        t.run("plant(N41000" + four + "o+99+99+99+9901)" + places + "read(0) = 396000000");
        t.run("plant(N41000" + four + "o-99-99-99-9901)" + places + "read(0) = -396000000");
    }

    @Holds(promise = {6, 12}, in = "THE PLANT", sentence = "The time is the number of steps, 0 at first.")
    static void timeIsTheNumberOfSteps(Checks t) {
        t.run("about(4) = 0; step(1, 0) = 1; about(4) = 1; read(0); setHold(3); place(0, 1); about(4) = 1; step(1, 0) = 2",
            "about(4) = 2; undo(); about(4) = 1; undo() = 3; step(5, 0) = 2");
        t.run("200 times step(0, 0) = 200; about(4) = 200");
    }
}
