/** What the document says of ranks and hidden dimensions, and promises 24 to 29. */
public final class ObservabilityTest {
    /** The rows (60, 73) and (60, 73) * A have the determinant 1000003; with the last factor greater by 1 they do not. */
    private static final String BY_THE_PRIME = "plant(N21000r-30+91+00+00r-67+42+00+00o+60+7301)";
    private static final String BESIDE_THE_PRIME = "plant(N21000r-30+91+00+00r-67+43+00+00o+60+7301)";
    /** C * A is 346 * C, so that C times the power 7 of A is beyond a long. */
    private static final String GREAT_POWERS = "plant(N41000r+99+99+99+50+00+00r+99+99+99+50+00+00r+99+99+99+50+00+00"
        + "r+98+98+98+46+00+00o+98+98+98+4901)";
    /** Three states that stay as they are. */
    private static final String THREE = "plant(N31050r+16+00+00+00%sr+00+16+00+00%sr+00+00+16+00%so+01+00+0001)";

    public static void main(String[] args) {
        Checks.main(ObservabilityTest.class);
    }

    /** Three states in a chain: the output shows state 0, in which state 1 comes next, in which state 2 comes next. */
    private static String chain(String e0, String e1, String e2) {
        return "plant(N31000r+00+01+00+00" + e0 + "r+00+00+01+00" + e1 + "r+00+00+00+00" + e2 + "o+01+00+0001)";
    }

    private static String three(String e0, String e1, String e2) {
        return String.format(THREE, e0, e1, e2);
    }

    private static void ranks(Checks t, String plant, int... want) {
        StringBuilder run = new StringBuilder(plant);
        for (int k = 8; k >= 1; k--) {
            run.append("; rankAfter(").append(k).append(") = ").append(want[Math.min(k, want.length) - 1]);
        }
        t.run(run + "; rankAfter(2) = " + want[Math.min(2, want.length) - 1]);
    }

    private static void hidden(Checks t, String plant, int... want) {
        StringBuilder run = new StringBuilder(plant);
        for (int k = 8; k >= 0; k--) {
            run.append("; hiddenDimension(").append(k).append(") = ").append(want[Math.min(k, want.length - 1)]);
        }
        t.run(run + "; hiddenDimension(1) = " + want[Math.min(1, want.length - 1)]);
    }

    // ---- the description

    @Holds(promise = {24, 25, 26}, in = "OBSERVABILITY",
        sentence = "All ranks are those of matrices of integers modulo the prime 1000003.")
    static void moduloThePrime(Checks t) {
        ranks(t, BY_THE_PRIME, 1);
        ranks(t, BESIDE_THE_PRIME, 1, 2);
        t.run(BY_THE_PRIME + "; observabilityIndex() = NONE; hiddenDimension(2) = 1; hiddenDimension(8) = 1");
        t.run(BESIDE_THE_PRIME + "; observabilityIndex() = 2; hiddenDimension(2) = 0");
        ranks(t, GREAT_POWERS, 1);
        hidden(t, GREAT_POWERS, 4, 3);
    }

    @Holds(promise = 24, in = "OBSERVABILITY", sentence = "The rank after k is the rank of the matrix of the rows of C, C *"
        + " A, and so on up to C times the power k - 1 of A.")
    static void ranksOfPowers(Checks t) {
        ranks(t, chain("+00", "+00", "+00"), 1, 2, 3);
        ranks(t, "plant(N41000r+00+01+00+00+00+00r+00+00+01+00+00+00r+00+00+00+01+00+00r+00+00+00+00+00+00o+01+00+00+0001)",
            1, 2, 3, 4);
        ranks(t, "plant(N41000r+00+01+00+00+00+00r+00+00+01+00+00+00r+01+00+00+00+00+00r+00+00+00+16+00+00o+01+00+00+0001)",
            1, 2, 3);
        ranks(t, "plant(N21000r+16+00+00+00r+00+16+00+00o+00+0001)", 0);
        ranks(t, "plant(N23000r+16+00+00+00r+00+16+00+00o+02+0401o-01-0201o+03+0501)", 2);
        ranks(t, "plant(N23000r+16+00+00+00r+00+16+00+00o+02+0401o-01-0201o+99+9901)", 2);
        ranks(t, "plant(N22000r+16+00+00+00r+00+16+00+00o+02+0401o-01-0201)", 1);
        // a row times A, not A times a row
        ranks(t, "plant(N21000r+16+01+00+00r+00+16+00+00o+01+0001)", 1, 2);
        ranks(t, "plant(N21000r+16+01+00+00r+00+16+00+00o+00+0101)", 1);
        // the quanta, the inputs and the bound say nothing
        ranks(t, "plant(N21990r+16+01+99+99r+00+16-99-99o+01+0099)", 1, 2);
    }

    @Holds(promise = 26, in = "OBSERVABILITY", sentence = "The hidden dimensions tell what cannot be seen if the unknown input"
        + " is arbitrary: V(0) is the space of all vectors of n integers modulo 1000003, and V(k + 1) the space of those x for"
        + " which C * x is 0 and A * x is the sum of a vector of V(k) and a multiple of e.")
    static void hiddenSpaces(Checks t) {
        hidden(t, chain("+00", "+00", "+00"), 3, 2, 1, 0);
        hidden(t, chain("+00", "+00", "+01"), 3, 2, 1, 0);
        hidden(t, chain("+00", "+01", "+00"), 3, 2, 1);
        hidden(t, chain("+01", "+00", "+00"), 3, 2);
        hidden(t, chain("+01", "+01", "+00"), 3, 2);
        hidden(t, "plant(N21000r+16+00+00+01r+03+16+00+01o+01-0101)", 2, 1, 0);
        // both outputs show the unknown input: only what they show together without it tells of state 2
        String outputs = "o+01+00+0001o+00+01+0001)";
        hidden(t, "plant(N32000r+00+00+01+00+01r+00+00+00+00+01r+00+00+00+00+00" + outputs, 3, 1, 0);
        hidden(t, "plant(N32000r+00+00+01+00+01r+00+00+01+00+01r+00+00+00+00+00" + outputs, 3, 1);
        hidden(t, "plant(N32000r+00+00+01+00+01r+00+00+02+00+02r+00+00+00+00+00" + outputs, 3, 1);
        hidden(t, "plant(N32000r+00+00+01+00+01r+00+00+02+00-02r+00+00+00+00+00" + outputs, 3, 1, 0);
        hidden(t, "plant(N32000r+00+00+01+00+00r+00+00+00+00+00r+00+00+00+00+00" + outputs, 3, 1, 0);
        hidden(t, "plant(N32000r+00+00+00+00+01r+00+00+00+00+01r+00+00+16+00+00o+01+00+0101o+00+01+0001)", 3, 1, 0);
        hidden(t, "plant(N31000r+16+00+00+00+00r+00+15+00+00+00r+00+00+14+00+00o+00+00+0101)", 3, 2);
    }

    @Holds(promise = 26, in = "OBSERVABILITY", sentence = "The hidden dimension k is the dimension of V(k).")
    static void hiddenDimensions(Checks t) {
        hidden(t, "plant(N23000r+16+00+00+00r+00+16+00+00o+02+0401o-01-0201o+03+0501)", 2, 0);
        hidden(t, "plant(N23000r+16+00+00+00r+00+16+00+00o+02+0401o-01-0201o+04+0801)", 2, 1);
        String fourInAChain = "plant(N41000r+00+01+00+00+00+00r+00+00+01+00+00+00r+00+00+00+01+00%sr+00+00+00+00+00%so+01+00+00+0001)";
        hidden(t, String.format(fourInAChain, "+00", "+05"), 4, 3, 2, 1, 0);
        hidden(t, String.format(fourInAChain, "+07", "+00"), 4, 3, 2, 1);
        hidden(t, String.format(fourInAChain, "+07", "+05"), 4, 3, 2, 1);
        hidden(t, "plant(N21000r+16+04+00+00r+00+16+00+00o+01+0001)", 2, 1, 0);
        hidden(t, "plant(N21000r+16+04+00+00r+00+16+00+01o+01+0001)", 2, 1, 0);
        hidden(t, "plant(N21000r+16+04+00+01r+00+16+00+00o+01+0001)", 2, 1);
        hidden(t, "plant(N21000r+16+00+00+00r+00+16+00+00o+00+0001)", 2);
        hidden(t, "plant(N12000r+16+00+01o+0001o+0101)", 1, 0);
        hidden(t, "plant(N41000r+00+01+00+00+00+00r+00+00+01+00+00+00r+00+00+00+01+00+00r+00+00+00+00+00+00o+01+00+00+0001)",
            4, 3, 2, 1, 0);
    }

    /** Each state follows a neighbour, and the output is the state at one end: it sees as far as e does not act. */
    @Holds(promise = 26, in = "OBSERVABILITY",
        sentence = "and V(k + 1) the space of those x for which C * x is 0 and A * x is the sum of a vector of V(k)")
    static void unknownInputAtEachState(Checks t) {
        for (int n = 1; n <= 4; n++) {
            for (int s = 0; s < n; s++) {
                int[] seenFromTheFirst = new int[s + 2];
                for (int k = 0; k < seenFromTheFirst.length; k++) {
                    seenFromTheFirst[k] = n - k;
                }
                hidden(t, neighbours(n, s, 1), seenFromTheFirst);
                int[] seenFromTheLast = new int[n - s + 1];
                for (int k = 0; k < seenFromTheLast.length; k++) {
                    seenFromTheLast[k] = n - k;
                }
                hidden(t, neighbours(n, s, -1), seenFromTheLast);
            }
        }
    }

    private static String neighbours(int n, int acted, int way) {
        StringBuilder plant = new StringBuilder("plant(N").append(n).append("1000");
        for (int i = 0; i < n; i++) {
            plant.append('r');
            for (int j = 0; j < n; j++) {
                plant.append(j == i + way ? "+16" : "+00");
            }
            plant.append("+00").append(i == acted ? "-03" : "+00");
        }
        plant.append('o');
        for (int j = 0; j < n; j++) {
            plant.append(j == (way > 0 ? 0 : n - 1) ? "+02" : "+00");
        }
        return plant.append("01)").toString();
    }

    /** Nothing of a greater plant counts any more when a smaller one is loaded. */
    @Holds(promise = {5, 24, 25, 26, 27, 28, 29}, sentence = "Replaces the plant by that of the text,")
    static void smallerPlantAfterAGreaterOne(Checks t) {
        String great = "plant(N43000r+16+01+02+03+04+05r+01+16+02+03+04+05r+01+02+16+03+04+05r+01+02+03+16+04+05o+01+02+03+0405"
            + "o+05+04+03+0201o+01+01+02+0303); rankAfter(8) = 4; hiddenDimension(8) = 0; clearText(); ";
        ranks(t, great + "plant(N11000r+16+01+00o+0001)", 0);
        hidden(t, great + "plant(N11000r+16+01+00o+0001)", 1);
        hidden(t, great + "plant(N11000r+16+01+00o+0101)", 1, 0);
        t.run(great + "plant(N11000r+16+01+00o+0101); free(0, 0) = 1; free(1, 0) = throws IndexOutOfBoundsException; touched() = 0",
            "freeRange(0, true) = 1000; observabilityIndex() = 1");
    }

    // ---- promise 24

    @Holds(promise = 24, sentence = "- `k`: 1 to 8")
    static void leastAndGreatestPower(Checks t) {
        t.run("rankAfter(1) = 1; rankAfter(8) = 1; rankAfter(0) = throws IllegalArgumentException",
            "rankAfter(9) = throws IllegalArgumentException");
        t.run("plant(N11000r+00+00+00o+0001); rankAfter(1) = 0; rankAfter(8) = 0");
    }

    @Holds(promise = 24, sentence = {"Returns the rank after k.", "Returns the rank."})
    static void rankAfter(Checks t) {
        t.run(chain("+01", "+02", "+03") + "; rankAfter(1) = 1; rankAfter(8) = 3; rankAfter(2) = 2; rankAfter(1) = 1");
    }

    @Holds(promise = 24, sentence = "Throws `IllegalArgumentException` if k is out of range")
    static void rankOutOfRange(Checks t) {
        t.run("rankAfter(0) = throws IllegalArgumentException; rankAfter(9) = throws IllegalArgumentException",
            "rankAfter(-1) = throws IllegalArgumentException; rankAfter(2147483647) = throws IllegalArgumentException",
            "rankAfter(-2147483648) = throws IllegalArgumentException");
    }

    // ---- promise 25

    @Holds(promise = 25, sentence = "Returns the observability index: the smallest k, 1 to n, for which the rank after k is n;"
        + " NONE if there is none.")
    static void observabilityIndex(Checks t) {
        t.run("observabilityIndex() = 1");
        t.run(chain("+01", "+02", "+03") + "; observabilityIndex() = 3");
        t.run("plant(N41000r+00+01+00+00+00+00r+00+00+01+00+00+00r+00+00+00+01+00+00r+00+00+00+00+00+00o+01+00+00+0001)",
            "observabilityIndex() = 4");
        t.run("plant(N41000r+00+01+00+00+00+00r+00+00+01+00+00+00r+00+00+00+01+00+00r+00+00+00+00+00+00o+00+01+00+0001)",
            "observabilityIndex() = NONE");
        t.run("plant(N22000r+16+00+00+00r+00+16+00+00o+02+0401o+03+0501); observabilityIndex() = 1");
        t.run("plant(N21000r+16+00+00+00r+00+15+00+00o+01+0101); observabilityIndex() = 2");
        t.run("plant(N21000r+16+00+00+00r+00+16+00+00o+01+0101); observabilityIndex() = NONE");
        t.run("plant(N11000r+16+00+00o+0001); observabilityIndex() = NONE");
        t.run("plant(N12000r+16+00+00o+0001o+0101); observabilityIndex() = 1");
    }

    // ---- promise 26

    @Holds(promise = 26, sentence = "- `k`: 0 to 8")
    static void leastAndGreatestRound(Checks t) {
        t.run("hiddenDimension(0) = 1; hiddenDimension(1) = 0; hiddenDimension(8) = 0; hiddenDimension(0) = 1",
            "hiddenDimension(-1) = throws IllegalArgumentException; hiddenDimension(9) = throws IllegalArgumentException");
        t.run("plant(N11000r+00+00+00o+0001); hiddenDimension(0) = 1; hiddenDimension(8) = 1");
    }

    @Holds(promise = 26, sentence = {"Returns a hidden dimension.", "Returns the hidden dimension k."})
    static void hiddenDimension(Checks t) {
        t.run(chain("+00", "+01", "+00") + "; hiddenDimension(8) = 1; hiddenDimension(0) = 3; hiddenDimension(1) = 2");
    }

    @Holds(promise = 26, sentence = "Throws `IllegalArgumentException` if k is out of range")
    static void hiddenDimensionOutOfRange(Checks t) {
        t.run("hiddenDimension(-1) = throws IllegalArgumentException; hiddenDimension(9) = throws IllegalArgumentException",
            "hiddenDimension(2147483647) = throws IllegalArgumentException",
            "hiddenDimension(-2147483648) = throws IllegalArgumentException");
    }

    // ---- promise 27

    @Holds(promise = 27, sentence = {"Tells whether the unknown input acts on the outputs in one step.",
        "Returns the set of the outputs k for which the sum of C(k, j) * e(j) is not 0, as a bit set."})
    static void touched(Checks t) {
        t.run("touched() = 0; setBound(5); touched() = 0");
        t.run("plant(N13000r+16+00+01o+0101o+0101o+0101); touched() = 7");
        t.run("plant(N13000r+16+00-01o+0001o+0101o+0001); touched() = 2");
        t.run("plant(N13000r+16+00-01o+0001o+0001o-0101); touched() = 4");
        t.run("plant(N12000r+16+01+05o-0101o+0001); touched() = 1");
        // the sums 3 * 1 - 1 * 3, 1 * 1, and -2 * 3
        t.run("plant(N23000r+16+00+00+01r+00+16+00-03o+03+0101o+01+0001o+00+0201); touched() = 6");
        t.run("plant(N42000r+16+00+00+00+00+00r+00+16+00+00+00+00r+00+00+16+00+00+00r+00+00+00+16+00+01o+00+00+00+0101"
            + "o+99+99+99+0001); touched() = 1");
    }

    // ---- promise 28

    @Holds(promise = 28, sentence = {"Returns a factor of a combination of states on which the unknown input does not act.",
        "If e is 0, combination q has the factor 1 for state q, and 0 for the other states; there are n.",
        "- `q`: number of the combination, from 0", "- `j`: state", "Returns the factor of state j."})
    static void freeWithoutTheUnknownInput(Checks t) {
        t.run("free(0, 0) = 1");
        t.run("plant(N41000r+16+00+00+00+00+00r+00+16+00+00+00+00r+00+00+16+00+00+00r+00+00+00+16+00+00o+01+00+00+0001)",
            "free(3, 3) = 1; free(3, 0) = 0; free(0, 0) = 1; free(0, 3) = 0; free(4, 0) = throws IndexOutOfBoundsException",
            "free(0, 4) = throws IndexOutOfBoundsException; freeRange(3, true) = 1000");
        t.run(three("+00", "+00", "+00") + "; free(0, 0) = 1; free(0, 1) = 0; free(0, 2) = 0; free(1, 0) = 0; free(1, 1) = 1",
            "free(1, 2) = 0; free(2, 0) = 0; free(2, 1) = 0; free(2, 2) = 1; free(3, 0) = throws IndexOutOfBoundsException");
    }

    @Holds(promise = 28, sentence = {"Otherwise let t be the first state with e(t) different from 0; there is a combination for"
        + " each other state s, in the order of their numbers:", "and the other states have the factor 0; there are n - 1."})
    static void freeCombinations(Checks t) {
        // the first state with the unknown input is state 0, 1, 2
        t.run(three("+01", "+05", "-02") + "; free(0, 0) = -5; free(0, 1) = 1; free(0, 2) = 0; free(1, 0) = 2; free(1, 1) = 0",
            "free(1, 2) = 1; free(2, 0) = throws IndexOutOfBoundsException");
        t.run(three("+00", "+06", "-04") + "; free(0, 0) = 1; free(0, 1) = 0; free(0, 2) = 0; free(1, 0) = 0; free(1, 1) = 2",
            "free(1, 2) = 3; free(2, 0) = throws IndexOutOfBoundsException");
        t.run(three("+00", "+00", "-04") + "; free(0, 0) = 1; free(0, 1) = 0; free(0, 2) = 0; free(1, 0) = 0; free(1, 1) = 1",
            "free(1, 2) = 0; free(2, 0) = throws IndexOutOfBoundsException");
        t.run("plant(N41000r+16+00+00+00+00+00r+00+16+00+00+00+02r+00+00+16+00+00+03r+00+00+00+16+00+04o+01+00+00+0001)",
            "free(0, 0) = 1; free(1, 1) = -3; free(1, 2) = 2; free(1, 3) = 0; free(2, 1) = -2; free(2, 2) = 0; free(2, 3) = 1",
            "free(3, 3) = throws IndexOutOfBoundsException");
    }

    @Holds(promise = 28, sentence = "with g the greatest common divisor of e(s) and e(t), state s has the factor |e(t)| / g,"
        + " state t has the factor -e(s) / g if e(t) is positive and e(s) / g if it is negative,")
    static void freeFactors(Checks t) {
        t.run(three("-04", "+06", "+00") + "; free(0, 0) = 3; free(0, 1) = 2; free(0, 2) = 0; free(1, 0) = 0; free(1, 2) = 1");
        t.run(three("+99", "-99", "+98") + "; free(0, 0) = 1; free(0, 1) = 1; free(1, 0) = -98; free(1, 2) = 99");
        t.run(three("-06", "-09", "+01") + "; free(0, 0) = -3; free(0, 1) = 2; free(1, 0) = 1; free(1, 2) = 6");
        t.run(three("-99", "+98", "-98") + "; free(0, 0) = 98; free(0, 1) = 99; free(1, 0) = -98; free(1, 2) = 99");
        t.run(three("+96", "-64", "+00") + "; free(0, 0) = 2; free(0, 1) = 3; free(1, 0) = 0; free(1, 2) = 1");
        t.run(three("-01", "+99", "-99") + "; free(0, 0) = 99; free(0, 1) = 1; free(1, 0) = -99; free(1, 2) = 1");
        t.run(three("+99", "+01", "-01") + "; free(0, 0) = -1; free(0, 1) = 99; free(1, 0) = 1; free(1, 2) = 99");
        t.run(three("+49", "+98", "-77") + "; free(0, 0) = -2; free(0, 1) = 1; free(1, 0) = 11; free(1, 2) = 7");
    }

    @Holds(promise = 28, sentence = "Throws `IndexOutOfBoundsException` if there is no such combination or state")
    static void freeOfNoCombinationOrState(Checks t) {
        t.run(three("+00", "+06", "-04") + "; free(2, 0) = throws IndexOutOfBoundsException",
            "free(-1, 0) = throws IndexOutOfBoundsException; free(0, 3) = throws IndexOutOfBoundsException",
            "free(0, -1) = throws IndexOutOfBoundsException; free(2147483647, 0) = throws IndexOutOfBoundsException",
            "free(0, -2147483648) = throws IndexOutOfBoundsException");
        t.run("free(1, 0) = throws IndexOutOfBoundsException; free(0, 1) = throws IndexOutOfBoundsException");
        // with one state, on which the unknown input acts, there is no combination at all
        t.run("plant(N11000r+16+01+01o+0101); free(0, 0) = throws IndexOutOfBoundsException");
    }

    // ---- promise 29

    @Holds(promise = 29, sentence = {"Returns the least or the greatest value of a combination of states on which the unknown"
        + " input does not act.", "- `q`: number of the combination, as for free", "- `upper`: true for the greatest value"
        + " over the intervals, false for the least one", "Returns that value."})
    static void freeRange(Checks t) {
        t.run("freeRange(0, false) = -1000; freeRange(0, true) = 1000; place(0, 7); read(0); freeRange(0, false) = 7");
        // the combinations are (-3, 2, 0) and (0, 0, 1)
        t.run(three("+02", "+03", "+00") + "; freeRange(0, false) = -5000; freeRange(0, true) = 5000; place(0, 10); read(0)",
            "freeRange(0, false) = -2030; freeRange(0, true) = 1970; freeRange(1, true) = 1000; freeRange(1, false) = -1000",
            "step(0, 0); freeRange(0, false) = -2090; freeRange(0, true) = 2030");
        // the greatest factors and the greatest values
        t.run("plant(N21990r+99+00+00+99r+00+99+00-98o+01+0001); 4 times step(0, 0); freeRange(0, true) = 197000000",
            "freeRange(0, false) = -197000000");
    }

    @Holds(promise = 29, sentence = "Throws `IndexOutOfBoundsException` if there is no such combination")
    static void freeRangeOfNoCombination(Checks t) {
        t.run(three("+02", "+03", "+00") + "; freeRange(1, true) = 1000; freeRange(2, true) = throws IndexOutOfBoundsException",
            "freeRange(-1, true) = throws IndexOutOfBoundsException; freeRange(2147483647, false) = throws IndexOutOfBoundsException",
            "freeRange(-2147483648, true) = throws IndexOutOfBoundsException");
        t.run(three("+00", "+00", "+00") + "; freeRange(2, true) = 1000; freeRange(3, true) = throws IndexOutOfBoundsException");
        t.run("plant(N11000r+16+01+01o+0101); freeRange(0, true) = throws IndexOutOfBoundsException");
    }
}
