/** Promises 24 to 29: ranks, hidden dimensions, and combinations without the unknown input. */
public final class ObservabilityTest {
    public static void main(String[] args) {
        Checks t = new Checks();
        promise24RankAfter(t);
        promise24ModuloThePrime(t);
        promise25ObservabilityIndex(t);
        promise26HiddenDimension(t);
        promise26Chain(t);
        promise26MoreOutputs(t);
        promise27Touched(t);
        promise28Free(t);
        promise28Refuses(t);
        promise29FreeRange(t);
        t.finish();
    }

    private static StateObserver twoStates(String a0, String a1, String e0, String e1, String c) {
        return Checks.loaded("N21000r" + a0 + "+01" + e0 + "r" + a1 + "+01" + e1 + "o" + c + "01");
    }

    /** Three states in a chain: the output shows state 0, in which state 1 comes next, in which state 2 comes next. */
    private static StateObserver chain(String e) {
        return Checks.loaded("N31000r+00+01+00+00" + e.substring(0, 3) + "r+00+00+01+00" + e.substring(3, 6)
            + "r+00+00+00+00" + e.substring(6, 9) + "o+01+00+0001");
    }

    private static void promise24RankAfter(Checks t) {
        StateObserver x = chain("+00+00+00");
        int[] ranks = {1, 2, 3, 3, 3, 3, 3, 3};
        for (int k = 1; k <= 8; k++) {
            t.due("rankAfter(" + k + ")", x.rankAfter(k), ranks[k - 1]);
        }
        t.due("rankAfter(1) again", x.rankAfter(1), 1);
        t.argument("rankAfter(0)", () -> x.rankAfter(0));
        t.argument("rankAfter(9)", () -> x.rankAfter(9));
        t.argument("rankAfter(-1)", () -> x.rankAfter(-1));
        StateObserver blind = twoStates("+16+00", "+00+16", "+00", "+00", "+00+00");
        t.due("rankAfter(8) without a view", blind.rankAfter(8), 0);
        StateObserver wide = Checks.loaded("N23000r+16+00+00+00r+00+16+00+00o+02+0401o-01-0201o+03+0501");
        t.due("rankAfter(1) of three outputs", wide.rankAfter(1), 2);
    }

    /** The rows (60, 73) and (60, 73) * A have the determinant 1000003. */
    private static void promise24ModuloThePrime(Checks t) {
        StateObserver x = twoStates("-30+91", "-67+42", "+00", "+00", "+60+73");
        t.due("rankAfter(2)", x.rankAfter(2), 1);
        t.due("observabilityIndex()", x.observabilityIndex(), StateObserver.NONE);
        t.due("hiddenDimension(2)", x.hiddenDimension(2), 1);
        StateObserver y = twoStates("-30+91", "-67+43", "+00", "+00", "+60+73");
        t.due("rankAfter(2)", y.rankAfter(2), 2);
    }

    private static void promise25ObservabilityIndex(Checks t) {
        t.due("observabilityIndex() of a chain", chain("+01+02+03").observabilityIndex(), 3);
        t.due("observabilityIndex() of the view (1, 1)",
            twoStates("+16+00", "+00+15", "+00", "+00", "+01+01").observabilityIndex(), 2);
        t.due("observabilityIndex() of equal states",
            twoStates("+16+00", "+00+16", "+00", "+00", "+01+01").observabilityIndex(), StateObserver.NONE);
        t.due("observabilityIndex() of two outputs",
            Checks.loaded("N22000r+16+00+00+00r+00+16+00+00o+02+0401o+03+0501").observabilityIndex(), 1);
    }

    private static void hidden(Checks t, StateObserver x, int... want) {
        for (int k = 0; k <= 8; k++) {
            t.due("hiddenDimension(" + k + ")", x.hiddenDimension(k), want[Math.min(k, want.length - 1)]);
        }
        t.due("hiddenDimension(1) again", x.hiddenDimension(1), want[Math.min(1, want.length - 1)]);
    }

    private static void promise26HiddenDimension(Checks t) {
        hidden(t, twoStates("+16+04", "+00+16", "+00", "+00", "+01+00"), 2, 1, 0);
        hidden(t, twoStates("+16+04", "+00+16", "+00", "+01", "+01+00"), 2, 1, 0);
        hidden(t, twoStates("+16+04", "+00+16", "+01", "+00", "+01+00"), 2, 1);
        hidden(t, twoStates("+16+00", "+00+16", "+00", "+00", "+00+00"), 2);
        hidden(t, twoStates("+16+00", "+03+16", "+01", "+01", "+01-01"), 2, 1, 0);
        StateObserver x = new StateObserver();
        t.argument("hiddenDimension(-1)", () -> x.hiddenDimension(-1));
        t.argument("hiddenDimension(9)", () -> x.hiddenDimension(9));
    }

    private static void promise26Chain(Checks t) {
        hidden(t, chain("+00+00+00"), 3, 2, 1, 0);
        hidden(t, chain("+00+00+01"), 3, 2, 1, 0);
        hidden(t, chain("+00+01+00"), 3, 2, 1);
        hidden(t, chain("+01+00+00"), 3, 2);
        hidden(t, chain("+01+01+00"), 3, 2);
    }

    /** Both outputs show the unknown input, so that only what they show together without it tells of state 2. */
    private static void promise26MoreOutputs(Checks t) {
        String outputs = "o+01+00+0001o+00+01+0001";
        hidden(t, Checks.loaded("N32000r+00+00+01+00+01r+00+00+00+00+01r+00+00+00+00+00" + outputs), 3, 1, 0);
        hidden(t, Checks.loaded("N32000r+00+00+01+00+01r+00+00+01+00+01r+00+00+00+00+00" + outputs), 3, 1);
        hidden(t, Checks.loaded("N32000r+00+00+01+00+01r+00+00+02+00+02r+00+00+00+00+00" + outputs), 3, 1);
        hidden(t, Checks.loaded("N32000r+00+00+01+00+01r+00+00+02+00-02r+00+00+00+00+00" + outputs), 3, 1, 0);
        hidden(t, Checks.loaded("N32000r+00+00+01+00+00r+00+00+00+00+00r+00+00+00+00+00" + outputs), 3, 1, 0);
        hidden(t, Checks.loaded("N32000r+00+00+00+00+01r+00+00+00+00+01r+00+00+16+00+00o+01+00+0101o+00+01+0001"), 3, 1, 0);
        hidden(t, Checks.loaded("N12000r+16+00+01o+0001o+0101"), 1, 0);
        hidden(t, Checks.loaded("N31000r+16+00+00+00+00r+00+15+00+00+00r+00+00+14+00+00o+00+00+0101"), 3, 2);
    }

    private static void promise27Touched(Checks t) {
        t.due("touched()", Checks.loaded("N23000r+16+00+00+01r+00+16+00-03o+03+0101o+01+0001o+00+0201").touched(), 6);
        t.due("touched()", Checks.loaded("N12000r+16+01+05o-0101o+0001").touched(), 1);
        t.due("touched() of a new object", new StateObserver().touched(), 0);
    }

    private static StateObserver threeStates(String e) {
        return Checks.loaded("N31050r+16+00+00+00" + e.substring(0, 3) + "r+00+16+00+00" + e.substring(3, 6)
            + "r+00+00+16+00" + e.substring(6, 9) + "o+01+00+0001");
    }

    private static void free(Checks t, StateObserver x, int q, int... want) {
        for (int j = 0; j < want.length; j++) {
            t.due("free(" + q + ", " + j + ")", x.free(q, j), want[j]);
        }
    }

    private static void promise28Free(Checks t) {
        StateObserver x = threeStates("+00+06-04");
        free(t, x, 0, 1, 0, 0);
        free(t, x, 1, 0, 2, 3);
        StateObserver y = threeStates("-04+06+00");
        free(t, y, 0, 3, 2, 0);
        free(t, y, 1, 0, 0, 1);
        StateObserver z = threeStates("+99-99+98");
        free(t, z, 0, 1, 1, 0);
        free(t, z, 1, -98, 0, 99);
        StateObserver negative = threeStates("-06-09+01");
        free(t, negative, 0, -3, 2, 0);
        free(t, negative, 1, 1, 0, 6);
        StateObserver one = threeStates("+01+05-02");
        free(t, one, 0, -5, 1, 0);
        free(t, one, 1, 2, 0, 1);
        StateObserver w = threeStates("+00+00+00");
        free(t, w, 0, 1, 0, 0);
        free(t, w, 1, 0, 1, 0);
        free(t, w, 2, 0, 0, 1);
    }

    private static void promise28Refuses(Checks t) {
        StateObserver x = threeStates("+00+06-04");
        t.index("free(2, 0)", () -> x.free(2, 0));
        t.index("free(-1, 0)", () -> x.free(-1, 0));
        t.index("free(0, 3)", () -> x.free(0, 3));
        t.index("free(0, -1)", () -> x.free(0, -1));
        StateObserver y = threeStates("+00+00+00");
        t.index("free(3, 0)", () -> y.free(3, 0));
        StateObserver z = Checks.loaded("N11000r+16+01+01o+0101");
        t.index("free(0, 0) when there is no combination", () -> z.free(0, 0));
        t.index("freeRange(0, true) when there is no combination", () -> z.freeRange(0, true));
    }

    private static void promise29FreeRange(Checks t) {
        StateObserver x = threeStates("+02+03+00");
        // the combinations are (-3, 2, 0) and (0, 0, 1)
        t.due("freeRange(0, false)", x.freeRange(0, false), -5000);
        t.due("freeRange(0, true)", x.freeRange(0, true), 5000);
        x.place(0, 10);
        x.read(0);
        t.due("freeRange(0, false)", x.freeRange(0, false), -2030);
        t.due("freeRange(0, true)", x.freeRange(0, true), 1970);
        t.due("freeRange(1, true)", x.freeRange(1, true), 1000);
        t.due("freeRange(1, false)", x.freeRange(1, false), -1000);
        x.step(0, 0);
        t.due("freeRange(0, false) after a step", x.freeRange(0, false), -3 * 20 - 2 * 1015);
        t.due("freeRange(0, true) after a step", x.freeRange(0, true), 2 * 1015);
        t.index("freeRange(2, true)", () -> x.freeRange(2, true));
        t.index("freeRange(-1, true)", () -> x.freeRange(-1, true));
    }
}
