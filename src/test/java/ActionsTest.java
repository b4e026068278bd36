/** What the document says of actions, undo and exceptions, and promises 11 to 18. */
public final class ActionsTest {
    /** Two states that stay as they are; the outputs are their sum and their difference. */
    private static final String SUM_AND_DIFFERENCE = "plant(N22000r+16+00+00+00r+00+16+00+00o+01+0101o+01-0101)";
    /** Two states that stay as they are; the output is their sum divided by 10. */
    private static final String TENTH = "plant(N21000r+16+00+00+00r+00+16+00+00o+01+0110)";
    private static final String[] ACTIONS = {"place(0, 5)", "step(7, 2)", "read(1)", "shave(0, 3)", "setGain(1, 0, 9)",
        "setHold(5)", "setBound(8)"};
    /** A plant, and calls that leave no number of the state as it was at first. */
    private static final String BUSY = "plant(N22034r+16+04+02+01r-03+15+01-02o+01+0103o+01-0102g00+05g11-07); place(0, 9); "
        + "place(1, -4); read(0); step(3, -1); read(1); step(-2, 3); read(0)";

    public static void main(String[] args) {
        Checks.main(ActionsTest.class);
    }

    // ---- actions and undo

    @Holds(promise = {11, 12, 13, 14, 15, 16, 17, 18}, in = "ACTIONS AND UNDO", sentence = "The methods in the section"
        + " \"actions\" change the state of the object, which consists of the true values, the intervals, the estimates, the"
        + " gains, the hold, the bound, the time, the last readings and ages of the outputs, and what unknown() needs of the"
        + " last step.")
    static void allOfTheStateComesBack(Checks t) {
        for (String action : new String[] {"place(0, 10)", "step(9, -3)", "read(1)", "shave(0, 9)", "setGain(1, 0, 9)",
            "setHold(5)", "setBound(8)"}) {
            t.run(BUSY + "; " + action + "; undo() = 7");
            boolean same = Run.seenAfter(BUSY + "; " + action + "; undo()").equals(Run.seenAfter(BUSY));
            t.due("the state is the same after " + action + " and undo()", same, true);
        }
        t.run("plant(N11054r+16+01+01o+0101g00+16); place(0, 40); read(0); step(3, -2); read(0); step(1, 0); setGain(0, 0, 7)",
            "undo(); setHold(0); undo(); setBound(0); undo(); place(0, 40); undo(); step(9, 1); undo(); read(0); undo()",
            "shave(0, 4); undo(); state(0, 0) = 42; state(0, 1) = 37; state(0, 2) = 47; state(0, 3) = 672",
            "coefficient(5, 0, 0) = 16; about(3) = 4; about(2) = 5; about(4) = 2; output(0, 0) = 41; output(0, 1) = 1",
            "unknown(false) = -5; unknown(true) = 5");
    }

    @Holds(promise = {11, 12, 13, 14, 15, 16, 17, 18}, in = "ACTIONS AND UNDO",
        sentence = "Each call of one of them that does not throw an exception is an action.")
    static void eachCallIsAnAction(Checks t) {
        for (String action : ACTIONS) {
            t.run("plant(N22030r+16+00+01+01r+00+16+01+00o+01+0101o+01-0101); undo() = throws IllegalStateException; " + action,
                "undo() = 0; undo() = throws IllegalStateException");
        }
        // also one that changes nothing
        t.run(SUM_AND_DIFFERENCE + "; place(0, 0); read(0); read(0); shave(0, 1) = 0; shave(1, 1) = 0; setGain(0, 0, 0)",
            "setHold(0); setBound(0); undo() = 7; undo() = 6; undo() = 5; undo() = 4; undo() = 3; undo() = 2; undo() = 1",
            "undo() = 0; undo() = throws IllegalStateException");
    }

    @Holds(promise = {11, 12, 13, 14, 15, 16, 17, 18}, in = "ACTIONS AND UNDO",
        sentence = "Each call of one of them that does not throw an exception is an action.")
    static void refusedCallIsNoAction(Checks t) {
        String[] refused = {"place(1, 0) = throws IndexOutOfBoundsException", "place(0, 1001) = throws IllegalStateException",
            "step(100, 0) = throws IllegalArgumentException", "read(1) = throws IndexOutOfBoundsException",
            "shave(1, 1) = throws IndexOutOfBoundsException", "shave(0, 0) = throws IllegalArgumentException",
            "setGain(0, 0, 100) = throws IllegalArgumentException", "setGain(0, 1, 0) = throws IndexOutOfBoundsException",
            "setHold(10) = throws IllegalArgumentException", "setBound(100) = throws IllegalArgumentException"};
        for (String call : refused) {
            t.run(call + "; undo() = throws IllegalStateException");
            t.run("setHold(7); 14 times setHold(1); " + call + "; 14 times undo() = 0; about(3) = 7");
        }
    }

    @Holds(promise = 18, in = "ACTIONS AND UNDO", sentence = "The state before each of the last 14 actions is remembered;")
    static void fourteenStatesAreRemembered(Checks t) {
        for (int actions = 1; actions <= 14; actions++) {
            t.run(actions + " times step(1, 0) = " + actions + "; undo() = " + (actions - 1) + "; about(4) = " + (actions - 1));
            t.run(actions + " times step(1, 0) = " + actions + "; " + actions + " times undo() = 0; about(4) = 0",
                "state(0, 0) = 0; undo() = throws IllegalStateException");
        }
        t.run("setHold(1); setBound(2); setGain(0, 0, 3); step(4, 2); place(0, 5); read(0); shave(0, 6); undo() = 6; undo() = 5",
            "width() = 2000; undo() = 4; state(0, 0) = 4; undo() = 3; about(4) = 0; undo() = 2; coefficient(5, 0, 0) = 0",
            "undo() = 1; about(2) = 0; undo() = 0; about(3) = 0");
    }

    @Holds(promise = 18, in = "ACTIONS AND UNDO",
        sentence = "when a fifteenth action happens, the oldest remembered state is forgotten.")
    static void fifteenthAction(Checks t) {
        t.run("15 times step(1, 0) = 15; undo() = 13; about(4) = 14; 13 times undo() = 0; about(4) = 1; state(0, 0) = 1",
            "undo() = throws IllegalStateException; about(4) = 1");
        t.run("16 times step(1, 0) = 16; 14 times undo() = 0; about(4) = 2; undo() = throws IllegalStateException");
        // the places of remembered states are used again and again, with actions taken back between
        t.run("29 times step(1, 0) = 29; 14 times undo() = 0; about(4) = 15; undo() = throws IllegalStateException");
        t.run("20 times step(1, 0) = 20; 5 times undo() = 9; about(4) = 15; 3 times step(2, 0) = 18; undo() = 11; undo() = 10",
            "undo() = 9; about(4) = 15; state(0, 0) = 15; 9 times undo() = 0; about(4) = 6; undo() = throws IllegalStateException",
            "15 times step(0, 0) = 21; 14 times undo() = 0; about(4) = 7");
        t.run("13 times step(1, 0); 13 times undo() = 0; 28 times step(1, 0) = 28; 14 times undo() = 0; about(4) = 14");
    }

    @Holds(promise = {2, 3, 5, 18, 32, 33}, in = "ACTIONS AND UNDO",
        sentence = "The text, the matrices, vectors and quanta, and the save slots are not part of the state.")
    static void whatUndoLeavesAlone(Checks t) {
        t.run("setHold(1); append(78); append(49); undo() = 0; clearText() = 2");
        t.run("setHold(1); save(0); undo() = 0; about(3) = 0; restore(0) = 0; about(3) = 1");
        t.run("setHold(1); save(0); setHold(2); save(0); undo() = 1; about(3) = 1; restore(0); about(3) = 2");
        t.run("save(0); append(78); restore(0); clearText() = 1");
        t.run("save(0); setHold(3); save(1); restore(0); restore(1) = 0; about(3) = 3");
    }

    @Holds(promise = {5, 18, 33}, in = "ACTIONS AND UNDO", sentence = "undo, load and restore are not actions.")
    static void whatIsNoAction(Checks t) {
        t.run("setHold(1); setHold(2); undo() = 1; undo() = 0; undo() = throws IllegalStateException");
        t.run("plant(N11000r+16+01+00o+0101); undo() = throws IllegalStateException");
        t.run("save(0); restore(0); undo() = throws IllegalStateException");
    }

    @Holds(promise = {2, 3, 4, 18, 32}, in = "ACTIONS AND UNDO",
        sentence = "Each call of one of them that does not throw an exception is an action.")
    static void otherCallsAreNoActions(Checks t) {
        t.run("setHold(1); save(0); append(78); clearText(); widthIf(0, 0); simulate(1L, 3); runScript(1, 1010); width()",
            "canBe(0, 0, 0, 0); ahead(3, 1, 0, true); earliest(0, 5, 1, true); errorPosition(); rankAfter(1); free(0, 0)",
            "undo() = 0; undo() = throws IllegalStateException");
    }

    // ---- exceptions

    @Holds(promise = {7, 8, 9, 11, 13, 14, 15, 20, 21, 22, 28, 29, 32, 33}, in = "EXCEPTIONS", sentence = "IndexOutOfBoundsException"
        + " means that a state, an output or another thing with a number does not exist, or that a slot is not 0 or 1.")
    static void whatDoesNotExist(Checks t) {
        for (String n : new String[] {"1", "-1", "4", "2147483647", "-2147483648"}) {
            String refused = ") = throws IndexOutOfBoundsException; ";
            t.run("coefficient(0, " + n + ", 0" + refused + "coefficient(0, 0, " + n + refused + "state(" + n + ", 0" + refused
                + "output(" + n + ", 2" + refused + "place(" + n + ", 0" + refused + "read(" + n + refused
                + "shave(" + n + ", 1" + refused + "setGain(" + n + ", 0, 0" + refused + "setGain(0, " + n + ", 0" + refused
                + "widthIf(" + n + ", 0" + refused + "ahead(1, 0, " + n + ", true" + refused
                + "earliest(" + n + ", 0, 0, true" + refused + "free(" + n + ", 0" + refused + "free(0, " + n + refused
                + "freeRange(" + n + ", true" + refused);
        }
        for (String slot : new String[] {"2", "-1", "2147483647", "-2147483648"}) {
            t.run("save(" + slot + ") = throws IndexOutOfBoundsException; restore(" + slot + ") = throws IndexOutOfBoundsException");
        }
    }

    @Holds(promise = {2, 6, 7, 8, 9, 12, 14, 15, 16, 17, 19, 20, 21, 22, 24, 26, 30, 31}, in = "EXCEPTIONS",
        sentence = "IllegalArgumentException means that another argument is out of its range.")
    static void argumentsOutOfTheirRanges(Checks t) {
        for (String n : new String[] {"-100", "256", "2147483647", "-2147483648"}) {
            String refused = ") = throws IllegalArgumentException; ";
            t.run("append(" + n + refused + "about(" + n + refused + "coefficient(" + n + ", 0, 0" + refused
                + "state(0, " + n + refused + "output(0, " + n + refused + "step(" + n + ", 0" + refused
                + "step(0, " + n + refused + "shave(0, " + n + refused + "setGain(0, 0, " + n + refused
                + "setHold(" + n + refused + "setBound(" + n + refused + "canBe(0, " + n + ", 0, 0" + refused
                + "ahead(" + n + ", 0, 0, true" + refused + "ahead(0, " + n + ", 0, true" + refused
                + "earliest(0, 0, " + n + ", true" + refused + "rankAfter(" + n + refused + "hiddenDimension(" + n + refused
                + "runScript(" + n + ", 0" + refused + "simulate(0, " + n + refused);
        }
    }

    @Holds(promise = {2, 5, 9, 11, 18, 23, 33}, in = "EXCEPTIONS",
        sentence = "IllegalStateException means what the method says.")
    static void statesThatRefuse(Checks t) {
        t.run("load() = throws IllegalStateException; output(0, 0) = throws IllegalStateException",
            "place(0, 1001) = throws IllegalStateException; undo() = throws IllegalStateException",
            "unknown(true) = throws IllegalStateException; restore(0) = throws IllegalStateException",
            "200 times append(1); append(1) = throws IllegalStateException");
        // the same calls in another state
        t.run("plant(N11000r+16+01+00o+0101); load() = 1; step(1, 0); read(0); output(0, 0) = 1; place(0, 1) = 1",
            "unknown(true) = 0; save(0) = 1; undo() = 2; restore(0) = 1; append(1) = 23");
    }

    @Holds(promise = {2, 8, 9, 11, 14, 15, 20, 21, 22, 33}, in = "EXCEPTIONS", sentence = "If several exceptions apply to a"
        + " call, the one that its description names first is thrown.")
    static void firstOfSeveralExceptions(Checks t) {
        t.run("200 times append(97); append(256) = throws IllegalArgumentException");
        t.run("state(1, 5) = throws IndexOutOfBoundsException; output(1, 9) = throws IndexOutOfBoundsException",
            "output(1, 0) = throws IndexOutOfBoundsException; output(0, 4) = throws IllegalArgumentException",
            "place(1, 5000) = throws IndexOutOfBoundsException; shave(1, 0) = throws IndexOutOfBoundsException",
            "setGain(1, 0, 100) = throws IndexOutOfBoundsException; setGain(0, 1, 100) = throws IndexOutOfBoundsException",
            "widthIf(1, 1000001) = throws IndexOutOfBoundsException; ahead(61, 100, 1, true) = throws IndexOutOfBoundsException",
            "earliest(1, 0, 100, true) = throws IndexOutOfBoundsException; restore(2) = throws IndexOutOfBoundsException",
            "coefficient(6, 1, 1) = throws IllegalArgumentException");
    }

    @Holds(promise = {2, 5, 11, 12, 13, 14, 15, 16, 17, 18, 32, 33}, in = "EXCEPTIONS",
        sentence = "A call that throws an exception changes nothing.")
    static void refusedCallsChangeNothing(Checks t) {
        String[] refused = {"append(256) = throws IllegalArgumentException", "load() = throws IllegalStateException",
            "about(5) = throws IllegalArgumentException", "coefficient(6, 0, 0) = throws IllegalArgumentException",
            "state(2, 0) = throws IndexOutOfBoundsException", "output(0, 4) = throws IllegalArgumentException",
            "place(2, 0) = throws IndexOutOfBoundsException", "place(0, 2000) = throws IllegalStateException",
            "step(100, 0) = throws IllegalArgumentException", "step(0, 4) = throws IllegalArgumentException",
            "read(2) = throws IndexOutOfBoundsException", "shave(2, 1) = throws IndexOutOfBoundsException",
            "shave(0, 101) = throws IllegalArgumentException", "setGain(2, 0, 0) = throws IndexOutOfBoundsException",
            "setGain(0, 2, 0) = throws IndexOutOfBoundsException", "setGain(0, 0, 100) = throws IllegalArgumentException",
            "setHold(10) = throws IllegalArgumentException", "setBound(100) = throws IllegalArgumentException",
            "canBe(0, 0, 1, 0) = throws IllegalArgumentException", "widthIf(2, 0) = throws IndexOutOfBoundsException",
            "widthIf(0, 1000001) = throws IllegalArgumentException", "ahead(61, 0, 0, true) = throws IllegalArgumentException",
            "earliest(0, 0, 100, true) = throws IllegalArgumentException", "rankAfter(0) = throws IllegalArgumentException",
            "hiddenDimension(9) = throws IllegalArgumentException", "free(1, 0) = throws IndexOutOfBoundsException",
            "freeRange(1, true) = throws IndexOutOfBoundsException", "runScript(1, 10000) = throws IllegalArgumentException",
            "simulate(1L, 0) = throws IllegalArgumentException", "save(2) = throws IndexOutOfBoundsException",
            "restore(2) = throws IndexOutOfBoundsException", "restore(1) = throws IllegalStateException"};
        for (String call : refused) {
            t.run(BUSY + "; save(0); append(63); setHold(1); " + call);
        }
        t.run("undo() = throws IllegalStateException; unknown(true) = throws IllegalStateException; step(1, 0)");
        t.run("200 times append(78); append(78) = throws IllegalStateException");
    }

    // ---- promise 11

    @Holds(promise = 11, sentence = {"Sets the true value of a state.", "- `i`: state", "- `v`: new value",
        "Returns the previous value."})
    static void placedValue(Checks t) {
        t.run("place(0, 5) = 0; state(0, 0) = 5; place(0, -7) = 5; place(0, 3) = -7; state(0, 0) = 3; undo() = 2; state(0, 0) = -7");
        t.run("plant(N41000r+16+00+00+00+00+00r+00+16+00+00+00+00r+00+00+16+00+00+00r+00+00+00+16+00+00o+01+00+00+0001)",
            "place(3, 4) = 0; place(1, 2) = 0; state(0, 0) = 0; state(1, 0) = 2; state(2, 0) = 0; state(3, 0) = 4; width() = 8000");
    }

    @Holds(promise = 11, sentence = "Throws `IndexOutOfBoundsException` if there is no such state")
    static void placeOfNoState(Checks t) {
        t.run("place(1, 0) = throws IndexOutOfBoundsException; place(-1, 0) = throws IndexOutOfBoundsException",
            "place(2147483647, 0) = throws IndexOutOfBoundsException; place(-2147483648, 0) = throws IndexOutOfBoundsException",
            "place(1, 5000) = throws IndexOutOfBoundsException");
        t.run(SUM_AND_DIFFERENCE + "; place(1, 1) = 0; place(2, 0) = throws IndexOutOfBoundsException");
    }

    @Holds(promise = 11, sentence = "Throws `IllegalStateException` if v is not in the interval of the state, or")
    static void valueOutsideTheInterval(Checks t) {
        t.run("place(0, 1000) = 0; place(0, 1001) = throws IllegalStateException; place(0, -1000) = 1000",
            "place(0, -1001) = throws IllegalStateException; place(0, 2147483647) = throws IllegalStateException",
            "place(0, -2147483648) = throws IllegalStateException; state(0, 0) = -1000");
        t.run("read(0); step(5, 0); place(0, 5) = 5; place(0, 4) = throws IllegalStateException",
            "place(0, 6) = throws IllegalStateException");
        // the interval of the state itself counts, not that of another one
        t.run("plant(N21000r+16+00+00+00r+00+16+00+00o+01+0010); read(0); step(0, 0); place(0, 9) = 0; place(1, 1000) = 0",
            "place(0, 10) = throws IllegalStateException; place(0, -1) = throws IllegalStateException");
        // what shave cuts off cannot be placed any more
        t.run(SUM_AND_DIFFERENCE + "; read(0); read(1); shave(0, 5) = 10; step(0, 0); place(0, 995) = 0",
            "place(0, 996) = throws IllegalStateException; place(0, -995) = 995; place(0, -996) = throws IllegalStateException");
    }

    @Holds(promise = 11, sentence = "the true values would not meet the condition of a fresh output then")
    static void valueAgainstAFreshOutput(Checks t) {
        t.run(TENTH + "; place(0, 3); place(1, 4); read(0) = 0; place(0, 5) = 3; place(0, 6) = throws IllegalStateException",
            "place(0, -4) = 5; place(0, -5) = throws IllegalStateException; state(0, 0) = -4; step(0, 0); place(0, 6) = -4",
            "place(0, -500) = 6; undo(); undo(); undo(); place(0, 6) = throws IllegalStateException");
        t.run(TENTH + "; place(0, -3); read(0) = -1; place(0, -1) = -3; place(0, 0) = throws IllegalStateException",
            "place(0, -10) = -1; place(0, -11) = throws IllegalStateException");
        // one fresh output of two is enough to refuse a value
        t.run("plant(N22000r+16+00+00+00r+00+16+00+00o+01+0199o+01-0103); read(0); place(0, 98) = 0; read(1) = 32",
            "place(1, 2) = throws IllegalStateException; place(1, 1) = throws IllegalStateException; place(1, 0) = 0");
        t.run("plant(N22000r+16+00+00+00r+00+16+00+00o+01+0103o+01-0199); read(0); read(1); place(1, 0) = 0",
            "place(0, 2) = 0; place(0, 3) = throws IllegalStateException; place(0, -1) = throws IllegalStateException");
    }

    // ---- promise 12

    @Holds(promise = 12, sentence = "- `u`: the input, -99 to 99")
    static void leastAndGreatestInput(Checks t) {
        t.run("step(99, 0) = 1; state(0, 0) = 99; step(-99, 0) = 2; state(0, 0) = 0; step(-99, 0) = 3; state(0, 0) = -99",
            "step(0, 0) = 4; state(0, 0) = -99; step(100, 0) = throws IllegalArgumentException",
            "step(-100, 0) = throws IllegalArgumentException; about(4) = 4");
    }

    @Holds(promise = 12, sentence = "- `d`: the unknown input, -bound to bound")
    static void leastAndGreatestUnknownInput(Checks t) {
        for (int bound : new int[] {0, 1, 50, 99}) {
            t.run("plant(N11000r+16+00+01o+0101); setBound(" + bound + "); step(0, " + bound + ") = 1; state(0, 0) = " + bound,
                "step(0, " + (bound + 1) + ") = throws IllegalArgumentException; step(0, " + -bound + ") = 2; state(0, 0) = 0",
                "step(0, " + (-bound - 1) + ") = throws IllegalArgumentException; step(0, 0) = 3");
        }
        // the bound that counts is the one of now, not that of the text or of the last step
        t.run("plant(N11050r+16+00+01o+0101); step(0, 5); setBound(6); step(0, 6) = 2; setBound(4); step(0, 5) = throws IllegalArgumentException",
            "undo(); step(0, -6) = 3; undo(); undo(); undo(); step(0, 6) = throws IllegalArgumentException; step(0, -5) = 2");
    }

    @Holds(promise = 12, sentence = {"Makes a step. The true values, the intervals and the estimates change as described"
        + " above;", "Returns the time then."})
    static void step(Checks t) {
        t.run("plant(N21050r+10-07+02+01r+03+05-01-03o+01+0001); place(0, 7); place(1, -9); step(4, -2) = 1; state(0, 0) = 14",
            "state(0, 1) = -1060; state(0, 2) = 1075; state(0, 3) = 128; state(1, 0) = 0; state(1, 1) = -519; state(1, 2) = 511",
            "state(1, 3) = -64; step(0, 0) = 2; state(0, 0) = 8; state(1, 0) = 2; state(0, 3) = 108; state(1, 3) = 4");
        t.run("plant(N11030r+16+01+01o+0101); step(99, 3) = 1; state(0, 0) = 102; step(-99, -3) = 2; state(0, 0) = 0");
        t.run("plant(N11990r+16+00+01o+0101); step(0, 99) = 1; step(0, -99) = 2; setBound(0); step(0, 0) = 3; state(0, 0) = 0");
        // the unknown input is no part of the intervals and of the estimates
        t.run("plant(N11050r+16+00+01o+0101); step(0, 5); state(0, 0) = 5; state(0, 1) = -1005; state(0, 2) = 1005; state(0, 3) = 0");
    }

    @Holds(promise = 12, sentence = "the time and the ages of all outputs that were read increase by 1.")
    static void timeAndAgesAfterAStep(Checks t) {
        t.run("plant(N13000r+16+01+00o+0101o+0101o+0101); read(0); step(0, 0) = 1; output(0, 1) = 1; read(2); step(0, 0) = 2",
            "output(0, 1) = 2; output(1, 1) = throws IllegalStateException; output(2, 1) = 1; about(4) = 2; undo()",
            "output(0, 1) = 1; output(2, 1) = 0; about(4) = 1");
    }

    @Holds(promise = 12, sentence = "Throws `IllegalArgumentException` if u or d is out of range")
    static void inputOutOfRange(Checks t) {
        t.run("plant(N11030r+16+01+01o+0101); step(100, 0) = throws IllegalArgumentException",
            "step(-100, 0) = throws IllegalArgumentException; step(0, 4) = throws IllegalArgumentException",
            "step(0, -4) = throws IllegalArgumentException; step(-2147483648, 0) = throws IllegalArgumentException",
            "step(2147483647, 0) = throws IllegalArgumentException; step(0, -2147483648) = throws IllegalArgumentException",
            "step(0, 2147483647) = throws IllegalArgumentException; about(4) = 0; undo() = throws IllegalStateException",
            "setBound(4); step(0, 4) = 1; step(0, -4) = 2; setBound(3); step(0, 4) = throws IllegalArgumentException");
        t.run("step(0, 1) = throws IllegalArgumentException; step(0, -1) = throws IllegalArgumentException; step(0, 0) = 1");
    }

    // ---- promise 13

    @Holds(promise = 13, sentence = {"Reads an output; it is fresh then.", "- `k`: output", "Returns the reading."})
    static void readOutput(Checks t) {
        t.run("plant(N22000r+16+00+00+00r+00+16+00+00o+01-0203o+01+0010); place(0, 25); place(1, 7); read(0) = 3",
            "output(0, 0) = 3; output(0, 1) = 0; output(1, 0) = throws IllegalStateException; step(0, 0); output(0, 1) = 1",
            "read(1) = 2; output(1, 1) = 0; output(0, 1) = 1; read(0) = 3; output(0, 1) = 0; undo(); output(0, 1) = 1");
        // a reading that is made again in the same moment, after a value was placed
        t.run(TENTH + "; read(0) = 0; place(0, 9); read(0) = 0; step(0, 0); place(0, 10); read(0) = 1; canBe(0, 9, 0, 0) = false");
    }

    @Holds(promise = 13, sentence = "The intervals are tightened (this cannot fail).")
    static void readingTightens(Checks t) {
        t.run("plant(N22000r+16+00+00+00r+00+16+00+00o+01-0203o+01+0010); place(0, 25); place(1, 7); read(0) = 3",
            "state(0, 1) = -1000; state(0, 2) = 1000; state(1, 1) = -505; state(1, 2) = 495; read(1) = 2",
            "state(0, 1) = 20; state(0, 2) = 29; state(1, 1) = 5; state(1, 2) = 10");
        // only fresh outputs count: the first one is not fresh any more when the second one is read
        t.run("plant(N22000r+16+00+00+00r+00+16+00+00o+01-0203o+01+0010); place(0, 25); place(1, 7); read(0); step(0, 0); read(1)",
            "state(0, 1) = 20; state(0, 2) = 29; state(1, 1) = -505; state(1, 2) = 495");
        // an output that was read before in the same moment counts, although its own reading is not made again
        t.run(SUM_AND_DIFFERENCE + "; place(0, 1000); read(0) = 1000; width() = 2000; place(0, 600) = throws IllegalStateException",
            "read(1) = 1000; state(0, 1) = 1000; state(1, 1) = 0; state(1, 2) = 0");
        // the truth is at an end of its interval, and at the limit
        t.run("place(0, 1000); read(0) = 1000; state(0, 1) = 1000; state(0, 2) = 1000");
        t.run("place(0, -1000); read(0) = -1000; state(0, 1) = -1000; state(0, 2) = -1000");
        t.run("plant(N11000r+99+00+00o+0199); place(0, 1000); 5 times step(0, 0); read(0) = 10101; state(0, 1) = 999999",
            "state(0, 2) = 1000000");
        t.run("plant(N11000r+99+00+00o+0199); place(0, -1000); 5 times step(0, 0); read(0) = -10102; state(0, 1) = -1000000",
            "state(0, 2) = -1000000");
    }

    @Holds(promise = 13, sentence = "Throws `IndexOutOfBoundsException` if there is no such output")
    static void readOfNoOutput(Checks t) {
        t.run("read(1) = throws IndexOutOfBoundsException; read(-1) = throws IndexOutOfBoundsException",
            "read(2147483647) = throws IndexOutOfBoundsException; read(-2147483648) = throws IndexOutOfBoundsException",
            "width() = 2000; undo() = throws IllegalStateException");
        t.run(SUM_AND_DIFFERENCE + "; read(1) = 0; read(2) = throws IndexOutOfBoundsException");
        t.run("plant(N13000r+16+01+00o+0101o+0101o+0101); read(2) = 0; read(3) = throws IndexOutOfBoundsException");
    }

    // ---- promise 14

    @Holds(promise = 14, sentence = {"Cuts single values off the ends of the interval of a state.", "- `i`: state",
        "Returns how many values were cut off."})
    static void shavedEnds(Checks t) {
        // x0 + x1 = 0 and x0 - x1 = 0 together allow no x0 but 0
        t.run(SUM_AND_DIFFERENCE + "; read(0); read(1); width() = 4000; shave(0, 5) = 10; state(0, 1) = -995; state(0, 2) = 995",
            "shave(1, 1) = 2; state(1, 1) = -999; state(1, 2) = 999; undo(); state(1, 2) = 1000; state(0, 2) = 995");
        t.run("shave(0, 100) = 0; step(0, 0); shave(0, 1) = 0; undo() = 2");
    }

    @Holds(promise = 14, sentence = "- `m`: 1 to 100")
    static void fewestAndMostValues(Checks t) {
        t.run(SUM_AND_DIFFERENCE + "; read(0); read(1); shave(0, 1) = 2; state(0, 1) = -999; state(0, 2) = 999; shave(0, 100) = 200",
            "state(0, 1) = -899; state(0, 2) = 899; shave(0, 101) = throws IllegalArgumentException",
            "shave(0, 0) = throws IllegalArgumentException; state(0, 1) = -899");
    }

    @Holds(promise = 14, sentence = "At most m times: if tightening would fail with the lower bound as the only value of this"
        + " state, the lower bound increases by 1; otherwise this part ends.")
    static void shavedLowerBound(Checks t) {
        t.run(SUM_AND_DIFFERENCE + "; read(0); read(1); shave(0, 1) = 2; state(0, 1) = -999; shave(0, 100) = 200; state(0, 1) = -899",
            "8 times shave(0, 100) = 200; state(0, 1) = -99; shave(0, 100) = 198; state(0, 1) = 0; state(0, 2) = 0",
            "shave(0, 100) = 0; state(0, 1) = 0");
        // x0 - x1 from 0 to 49: then x0 is from 0 to 24, so that the lower end goes farther than the upper one
        String apart = "plant(N22000r+16+00+00+00r+00+16+00+00o+01+0101o+01-0150); read(0); read(1); 9 times shave(0, 100) = 200; ";
        t.run(apart + "shave(0, 99) = 175; state(0, 1) = -1; state(0, 2) = 24; shave(0, 100) = 1; state(0, 1) = 0; state(0, 2) = 24");
        t.run(apart + "shave(0, 100) = 176; state(0, 1) = 0; state(0, 2) = 24; shave(0, 1) = 0");
    }

    @Holds(promise = 14,
        sentence = "Then the same at most m times with the upper bound, which decreases by 1.")
    static void shavedUpperBound(Checks t) {
        // x0 - x1 from -50 to -1: then x0 is from -25 to -1
        String apart = "plant(N22000r+16+00+00+00r+00+16+00+00o+01+0101o+01-0150); place(0, -7); place(1, 7); read(0) = 0; read(1) = -1; ";
        t.run(apart + "9 times shave(0, 100) = 200; state(0, 2) = 99; shave(0, 76) = 151; state(0, 1) = -25; state(0, 2) = 23",
            "shave(0, 23) = 23; state(0, 1) = -25; state(0, 2) = 0; shave(0, 1) = 1; state(0, 2) = -1; shave(0, 1) = 0",
            "state(0, 2) = -1");
        // an end that nothing speaks against stays, though the other one goes
        t.run("plant(N21000r+16+00+00+00r+00+16+00+00o+02+0201); read(0); shave(0, 100) = 0");
    }

    @Holds(promise = 14, sentence = "The intervals of the other states do not change, nor is anything tightened in the end.")
    static void shaveLeavesTheOthers(Checks t) {
        t.run(SUM_AND_DIFFERENCE + "; read(0); read(1); 9 times shave(0, 100); shave(0, 100) = 200; state(0, 1) = 0; state(0, 2) = 0",
            "state(1, 1) = -1000; state(1, 2) = 1000; width() = 2000; read(0); width() = 0");
        t.run(SUM_AND_DIFFERENCE + "; read(0); read(1); shave(1, 100) = 200; state(0, 1) = -1000; state(0, 2) = 1000",
            "state(1, 1) = -900; state(1, 2) = 900; output(0, 1) = 0; output(0, 0) = 0");
    }

    @Holds(promise = 14, sentence = "Throws `IndexOutOfBoundsException` if there is no such state")
    static void shaveOfNoState(Checks t) {
        t.run("shave(1, 1) = throws IndexOutOfBoundsException; shave(-1, 1) = throws IndexOutOfBoundsException",
            "shave(1, 0) = throws IndexOutOfBoundsException; shave(2147483647, 1) = throws IndexOutOfBoundsException",
            "shave(-2147483648, 101) = throws IndexOutOfBoundsException");
        t.run(SUM_AND_DIFFERENCE + "; shave(1, 1) = 0; shave(2, 1) = throws IndexOutOfBoundsException");
    }

    @Holds(promise = 14, sentence = "Throws `IllegalArgumentException` if m is out of range")
    static void shaveOutOfRange(Checks t) {
        t.run(SUM_AND_DIFFERENCE + "; read(0); read(1); shave(0, 0) = throws IllegalArgumentException",
            "shave(0, 101) = throws IllegalArgumentException; shave(0, -1) = throws IllegalArgumentException",
            "shave(0, 2147483647) = throws IllegalArgumentException; shave(0, -2147483648) = throws IllegalArgumentException",
            "width() = 4000; shave(0, 1) = 2; shave(0, 100) = 200; undo() = 3");
    }

    // ---- promise 15

    @Holds(promise = 15, sentence = "- `v`: new gain, -99 to 99")
    static void leastAndGreatestGain(Checks t) {
        t.run("setGain(0, 0, 99) = 0; coefficient(5, 0, 0) = 99; setGain(0, 0, -99) = 99; coefficient(5, 0, 0) = -99",
            "setGain(0, 0, 0) = -99; coefficient(5, 0, 0) = 0");
        // 99 * 16 * 1000, and the same with -99
        t.run("place(0, 1000); read(0); setGain(0, 0, 99); step(0, 0); state(0, 3) = 99000; undo(); setGain(0, 0, -99); step(0, 0)",
            "state(0, 3) = -99000");
    }

    @Holds(promise = 15, sentence = {"Changes a gain.", "- `i`: state", "- `k`: output", "Returns the previous gain."})
    static void changedGain(Checks t) {
        t.run("plant(N22000r+16+00+00+00r+00+16+00+00o+01+0101o+01-0101g10+07); setGain(1, 0, -99) = 7; setGain(1, 0, 99) = -99",
            "setGain(0, 1, 5) = 0; coefficient(5, 1, 0) = 99; coefficient(5, 0, 1) = 5; coefficient(5, 0, 0) = 0",
            "coefficient(5, 1, 1) = 0; undo() = 2; coefficient(5, 0, 1) = 0; coefficient(5, 1, 0) = 99");
    }

    @Holds(promise = 15, sentence = "Throws `IndexOutOfBoundsException` if there is no such state or output")
    static void gainOfNoStateOrOutput(Checks t) {
        t.run(SUM_AND_DIFFERENCE + "; setGain(2, 0, 0) = throws IndexOutOfBoundsException",
            "setGain(0, 2, 0) = throws IndexOutOfBoundsException; setGain(-1, 0, 100) = throws IndexOutOfBoundsException",
            "setGain(0, -1, 0) = throws IndexOutOfBoundsException; setGain(2147483647, 0, 0) = throws IndexOutOfBoundsException",
            "setGain(0, -2147483648, 100) = throws IndexOutOfBoundsException; setGain(1, 1, 1) = 0");
        t.run("plant(N12000r+16+01+00o+0101o+0101); setGain(0, 1, 1) = 0; setGain(1, 0, 1) = throws IndexOutOfBoundsException");
        t.run("plant(N21000r+16+00+00+00r+00+16+00+00o+01+0101); setGain(1, 0, 1) = 0; setGain(0, 1, 1) = throws IndexOutOfBoundsException");
    }

    @Holds(promise = 15, sentence = "Throws `IllegalArgumentException` if v is out of range")
    static void gainOutOfRange(Checks t) {
        t.run("setGain(0, 0, 100) = throws IllegalArgumentException; setGain(0, 0, -100) = throws IllegalArgumentException",
            "setGain(0, 0, 2147483647) = throws IllegalArgumentException; setGain(0, 0, -2147483648) = throws IllegalArgumentException",
            "coefficient(5, 0, 0) = 0; setGain(0, 0, 99) = 0; setGain(0, 0, -99) = 99");
    }

    // ---- promise 16

    @Holds(promise = 16, sentence = {"Changes the hold.", "Returns the previous hold."})
    static void changedHold(Checks t) {
        t.run("setHold(2) = 0; setHold(5) = 2; about(3) = 5; undo() = 1; about(3) = 2; setHold(4) = 2; about(3) = 4; setHold(4) = 4");
    }

    @Holds(promise = 16, sentence = "- `v`: new hold, 0 to 9")
    static void leastAndGreatestHold(Checks t) {
        for (int v = 0; v <= 9; v++) {
            t.run("setHold(" + v + ") = 0; about(3) = " + v + "; setHold(0) = " + v + "; about(3) = 0; setHold(9) = 0; about(3) = 9");
        }
    }

    @Holds(promise = 16, sentence = "Throws `IllegalArgumentException` if v is out of range")
    static void holdOutOfRange(Checks t) {
        t.run("setHold(3); setHold(10) = throws IllegalArgumentException; setHold(-1) = throws IllegalArgumentException",
            "setHold(2147483647) = throws IllegalArgumentException; setHold(-2147483648) = throws IllegalArgumentException",
            "about(3) = 3; undo() = 0");
    }

    // ---- promise 17

    @Holds(promise = 17, sentence = "- `v`: new bound, 0 to 99")
    static void leastAndGreatestBound(Checks t) {
        for (int v : new int[] {0, 1, 9, 10, 50, 98, 99}) {
            t.run("plant(N11000r+16+00+01o+0101); setBound(" + v + ") = 0; about(2) = " + v + "; step(0, 0)",
                "state(0, 1) = " + (-1000 - v) + "; state(0, 2) = " + (1000 + v) + "; setBound(0) = " + v + "; setBound(99) = 0");
        }
    }

    @Holds(promise = 17, sentence = {"Changes the bound of the unknown input in future steps.", "Returns the previous bound."})
    static void changedBound(Checks t) {
        t.run("plant(N11000r+16+01+02o+0101); setBound(99) = 0; setBound(3) = 99; about(2) = 3; step(0, -3); state(0, 0) = -6",
            "state(0, 1) = -1006; state(0, 2) = 1006; setBound(0) = 3; state(0, 1) = -1006; step(0, 0); state(0, 1) = -1006",
            "step(0, 1) = throws IllegalArgumentException");
        // what is asked of the last step keeps the bound of that step
        t.run("plant(N11050r+16+00+01o+0101); step(0, 0); setBound(2) = 5; unknown(true) = 5; unknown(false) = -5; step(0, 0)",
            "unknown(true) = 2; ahead(1, 0, 0, true) = 1009; setBound(99) = 2; unknown(true) = 2; ahead(1, 0, 0, true) = 1106");
    }

    @Holds(promise = 17, sentence = "Throws `IllegalArgumentException` if v is out of range")
    static void boundOutOfRange(Checks t) {
        t.run("setBound(3); setBound(100) = throws IllegalArgumentException; setBound(-1) = throws IllegalArgumentException",
            "setBound(2147483647) = throws IllegalArgumentException; setBound(-2147483648) = throws IllegalArgumentException",
            "about(2) = 3; undo() = 0");
    }

    // ---- promise 18

    @Holds(promise = 18, sentence = {"Takes back the last action that is remembered.",
        "Returns how many states are still remembered."})
    static void takenBack(Checks t) {
        t.run("setHold(1); setHold(2); setHold(3); undo() = 2; about(3) = 2; undo() = 1; about(3) = 1; setHold(7) = 1; undo() = 1",
            "about(3) = 1; undo() = 0; about(3) = 0");
        t.run("14 times step(1, 0); undo() = 13; step(1, 0); undo() = 13; step(1, 0); step(1, 0); undo() = 13; about(4) = 14");
    }

    @Holds(promise = 18, sentence = "Throws `IllegalStateException` if none is remembered")
    static void nothingRemembered(Checks t) {
        t.run("undo() = throws IllegalStateException; undo() = throws IllegalStateException; setHold(1); undo() = 0",
            "undo() = throws IllegalStateException; about(3) = 0");
        t.run("16 times step(1, 0); 14 times undo() = 0; undo() = throws IllegalStateException; about(4) = 2; state(0, 0) = 2",
            "setHold(5); undo() = 0; about(3) = 0; undo() = throws IllegalStateException");
        t.run("step(1, 0); save(0); restore(0) = 1; undo() = throws IllegalStateException");
        t.run("step(1, 0); plant(N11000r+16+01+00o+0101); undo() = throws IllegalStateException");
    }
}
