/** Promises 19 to 23: the questions about values, widths and bounds. */
public final class QuestionsTest {
    private static final String SUM = "N21000r+16+00+00+00r+00+16+00+00o+01+0101";

    public static void main(String[] args) {
        Checks t = new Checks();
        promise19CanBe(t);
        promise19FreshOutputs(t);
        promise20WidthIf(t);
        promise20FreshOutput(t);
        promise20HundredPasses(t);
        promise21Ahead(t);
        promise21Refuses(t);
        promise22Earliest(t);
        promise22Refuses(t);
        promise23Unknown(t);
        promise23Bounds(t);
        promise23Limits(t);
        promise23OneLimit(t);
        promise23Refuses(t);
        t.finish();
    }

    private static void promise19CanBe(Checks t) {
        StateObserver x = new StateObserver();
        t.due("canBe(1000, 0, 0, 0)", x.canBe(1000, 0, 0, 0), true);
        t.due("canBe(1001, 0, 0, 0)", x.canBe(1001, 0, 0, 0), false);
        t.due("canBe(-1000, 0, 0, 0)", x.canBe(-1000, 0, 0, 0), true);
        t.due("canBe(-1001, 0, 0, 0)", x.canBe(-1001, 0, 0, 0), false);
        t.due("canBe(the least int, 0, 0, 0)", x.canBe(Integer.MIN_VALUE, 0, 0, 0), false);
        t.argument("canBe(0, 1, 0, 0)", () -> x.canBe(0, 1, 0, 0));
        t.argument("canBe(0, 0, -1, 0)", () -> x.canBe(0, 0, -1, 0));
        t.argument("canBe(2000, 0, 0, 1)", () -> x.canBe(2000, 0, 0, 1));
        StateObserver y = Checks.loaded("N41000r+16+00+00+00+00+00r+00+16+00+00+00+00r+00+00+16+00+00+00"
            + "r+00+00+00+16+00+00o+01+00+00+0001");
        t.due("canBe(1, 2, 3, 1000)", y.canBe(1, 2, 3, 1000), true);
        t.due("canBe(1, 2, 3, 1001)", y.canBe(1, 2, 3, 1001), false);
        t.due("canBe(1, 2, -1001, 4)", y.canBe(1, 2, -1001, 4), false);
    }

    private static void promise19FreshOutputs(Checks t) {
        StateObserver x = Checks.loaded(SUM);
        x.place(0, 7);
        x.read(0);
        t.due("canBe(3, 4, 0, 0)", x.canBe(3, 4, 0, 0), true);
        t.due("canBe(3, 5, 0, 0)", x.canBe(3, 5, 0, 0), false);
        t.due("canBe(1000, -993, 0, 0)", x.canBe(1000, -993, 0, 0), true);
        t.due("canBe(1001, -994, 0, 0)", x.canBe(1001, -994, 0, 0), false);
        t.argument("canBe(3, 4, 1, 0)", () -> x.canBe(3, 4, 1, 0));
        x.step(0, 0);
        t.due("canBe(3, 5, 0, 0)", x.canBe(3, 5, 0, 0), true);
    }

    private static void promise20WidthIf(Checks t) {
        StateObserver x = Checks.loaded("N11000r+16+01+00o-0205");
        // -2 * x is from 5 * y to 5 * y + 4
        t.due("widthIf(0, 0)", x.widthIf(0, 0), 2);
        t.due("widthIf(0, 1)", x.widthIf(0, 1), 1);
        t.due("widthIf(0, 400)", x.widthIf(0, 400), 0);
        t.due("widthIf(0, 401)", x.widthIf(0, 401), StateObserver.NONE);
        t.due("widthIf(0, -400)", x.widthIf(0, -400), 2);
        t.due("widthIf(0, -401)", x.widthIf(0, -401), StateObserver.NONE);
        t.due("widthIf(0, 1000000)", x.widthIf(0, 1000000), StateObserver.NONE);
        t.due("widthIf(0, -1000000)", x.widthIf(0, -1000000), StateObserver.NONE);
        t.argument("widthIf(0, 1000001)", () -> x.widthIf(0, 1000001));
        t.argument("widthIf(0, -1000001)", () -> x.widthIf(0, -1000001));
        t.index("widthIf(1, 1000001)", () -> x.widthIf(1, 1000001));
        t.index("widthIf(-1, 0)", () -> x.widthIf(-1, 0));
        t.due("width()", x.width(), 2000);
        t.state("output(0, 0)", () -> x.output(0, 0));
        t.state("undo()", x::undo);
    }

    private static void promise20FreshOutput(Checks t) {
        StateObserver x = Checks.loaded(SUM);
        x.place(0, 7);
        x.read(0);
        t.due("width()", x.width(), 2 * 1993);
        t.due("widthIf(0, 100)", x.widthIf(0, 100), 2 * 1900);
        t.due("output(0, 0)", x.output(0, 0), 7);
        x.step(0, 0);
        t.due("widthIf(0, -1986)", x.widthIf(0, -1986), 0);
        t.due("widthIf(0, -1987)", x.widthIf(0, -1987), StateObserver.NONE);
    }

    /** The readings 0 and 1 exclude one another, but each pass only cuts one value off each end. */
    private static void promise20HundredPasses(Checks t) {
        StateObserver x = Checks.loaded("N22000r+16+00+00+00r+00+16+00+00o+01-0101o-01+0101");
        x.read(0);
        t.due("widthIf(1, 1)", x.widthIf(1, 1), 3602);
        t.due("widthIf(1, 0)", x.widthIf(1, 0), 4000);
    }

    private static void promise21Ahead(Checks t) {
        StateObserver x = Checks.loaded("N11040r+16+01+01o+0101");
        t.due("ahead(0, 5, 0, true)", x.ahead(0, 5, 0, true), 1000);
        t.due("ahead(0, 5, 0, false)", x.ahead(0, 5, 0, false), -1000);
        t.due("ahead(3, 5, 0, true)", x.ahead(3, 5, 0, true), 1027);
        t.due("ahead(3, 5, 0, false)", x.ahead(3, 5, 0, false), -997);
        t.due("ahead(60, -99, 0, false)", x.ahead(60, -99, 0, false), -1000 - 60 * 103);
        t.due("ahead(60, 99, 0, true)", x.ahead(60, 99, 0, true), 1000 + 60 * 103);
        x.read(0);
        x.step(7, 1);
        t.due("ahead(2, 1, 0, true)", x.ahead(2, 1, 0, true), 7 + 4 + 10);
        t.due("the time", x.about(4), 1);
        t.due("undo()", x.undo(), 1);
        StateObserver y = Checks.loaded("N11000r+99+01+00o+0101");
        t.due("ahead(60, 99, 0, true)", y.ahead(60, 99, 0, true), 1000000);
        t.due("ahead(60, 99, 0, false)", y.ahead(60, 99, 0, false), -1000000);
    }

    private static void promise21Refuses(Checks t) {
        StateObserver x = new StateObserver();
        t.argument("ahead(-1, 0, 0, true)", () -> x.ahead(-1, 0, 0, true));
        t.argument("ahead(61, 0, 0, true)", () -> x.ahead(61, 0, 0, true));
        t.argument("ahead(1, 100, 0, true)", () -> x.ahead(1, 100, 0, true));
        t.argument("ahead(1, -100, 0, true)", () -> x.ahead(1, -100, 0, true));
        t.index("ahead(61, 100, 1, true)", () -> x.ahead(61, 100, 1, true));
        t.index("ahead(1, 0, -1, true)", () -> x.ahead(1, 0, -1, true));
    }

    private static void promise22Earliest(Checks t) {
        StateObserver x = new StateObserver();
        t.due("earliest(0, 1000, 0, false)", x.earliest(0, 1000, 0, false), 0);
        t.due("earliest(0, -1000, 0, true)", x.earliest(0, -1000, 0, true), 0);
        t.due("earliest(0, -990, 1, true)", x.earliest(0, -990, 1, true), 10);
        t.due("earliest(0, -940, 1, true)", x.earliest(0, -940, 1, true), 60);
        t.due("earliest(0, -939, 1, true)", x.earliest(0, -939, 1, true), StateObserver.NONE);
        t.due("earliest(0, 1060, 1, false)", x.earliest(0, 1060, 1, false), 60);
        t.due("earliest(0, 1061, 1, false)", x.earliest(0, 1061, 1, false), StateObserver.NONE);
        t.due("earliest(0, the least int, 0, true)", x.earliest(0, Integer.MIN_VALUE, 0, true), 0);
        t.due("earliest(0, the greatest int, 99, false)", x.earliest(0, Integer.MAX_VALUE, 99, false), StateObserver.NONE);
        StateObserver y = Checks.loaded("N11000r-16+01+00o+0101");
        y.place(0, 300);
        y.read(0);
        y.step(0, 0);
        t.due("earliest(0, 1, 0, true)", y.earliest(0, 1, 0, true), 1);
        t.due("earliest(0, -300, 0, true)", y.earliest(0, -300, 0, true), 0);
        t.due("the time", y.about(4), 1);
    }

    private static void promise22Refuses(Checks t) {
        StateObserver x = new StateObserver();
        t.argument("earliest(0, 0, 100, true)", () -> x.earliest(0, 0, 100, true));
        t.argument("earliest(0, 0, -100, false)", () -> x.earliest(0, 0, -100, false));
        t.index("earliest(1, 0, 100, true)", () -> x.earliest(1, 0, 100, true));
        t.index("earliest(-1, 0, 0, true)", () -> x.earliest(-1, 0, 0, true));
    }

    private static void unknown(Checks t, StateObserver x, int least, int greatest) {
        t.due("unknown(false)", x.unknown(false), least);
        t.due("unknown(true)", x.unknown(true), greatest);
    }

    private static void promise23Unknown(Checks t) {
        StateObserver x = Checks.loaded("N11050r+16+07+02o+0101");
        x.place(0, 10);
        x.read(0);
        x.step(4, 3);
        unknown(t, x, -5, 5);
        x.read(0);
        unknown(t, x, 3, 3);
        x.setBound(1);
        unknown(t, x, 3, 3);
        x.step(0, 1);
        unknown(t, x, -1, 1);
        x.undo();
        unknown(t, x, 3, 3);
        x.setBound(9);
        t.due("unknown(true) with the bound of then", x.unknown(true), 3);
        x.step(0, 0);
        x.setBound(2);
        unknown(t, x, -9, 9);
    }

    private static void promise23Bounds(Checks t) {
        StateObserver x = Checks.loaded("N11050r+16+00+02o+0105");
        x.place(0, 10);
        x.read(0);
        x.step(0, 3);
        x.read(0);
        unknown(t, x, 1, 4);
        StateObserver y = Checks.loaded("N11050r+16+00-02o+0105");
        y.place(0, 10);
        y.read(0);
        y.step(0, 3);
        y.read(0);
        unknown(t, y, 3, 5);
        for (int d = -5; d <= 5; d += 10) {
            StateObserver w = Checks.loaded("N11050r+16+00-02o+0101");
            w.read(0);
            w.step(0, d);
            w.read(0);
            unknown(t, w, d, d);
        }
        StateObserver z = Checks.loaded("N11050r+16+00+00o+0105");
        z.read(0);
        z.step(0, 3);
        z.read(0);
        unknown(t, z, -5, 5);
    }

    /** A bound that was limited tells nothing: d = 0 would need a state beyond the limit here. */
    private static void promise23Limits(Checks t) {
        for (int sign = -1; sign <= 1; sign += 2) {
            StateObserver x = Checks.loaded("N11050r+99+00+01o+0101");
            x.place(0, sign * 1000);
            x.read(0);
            for (int i = 0; i < 4; i++) {
                x.step(0, 0);
                x.read(0);
            }
            t.due("state(0, 1)", x.state(0, 1), sign * 1000000);
            unknown(t, x, -5, 5);
        }
    }

    /** State 1 becomes state 0, which is at the limit, but for an input that leads away from it again. */
    private static void promise23OneLimit(Checks t) {
        for (int sign = -1; sign <= 1; sign += 2) {
            StateObserver x = Checks.loaded("N21050r+99+00+00+00r+16+00+01+01o+01+0001");
            x.place(0, sign * 1000);
            x.read(0);
            for (int i = 0; i < 4; i++) {
                x.step(0, 0);
            }
            x.step(-sign * 3, 0);
            t.due("state(1, 1)", x.state(1, 1), sign < 0 ? -1000000 : 1000000 - 8);
            t.due("state(1, 2)", x.state(1, 2), sign < 0 ? -1000000 + 8 : 1000000);
            unknown(t, x, -5, 5);
        }
    }

    private static void promise23Refuses(Checks t) {
        StateObserver x = Checks.loaded("N22050r+16+00+00+01r+00+16+00+01o+01+0001o+00+0101");
        t.state("unknown(true)", () -> x.unknown(true));
        t.state("unknown(false)", () -> x.unknown(false));
        x.read(0);
        x.read(1);
        x.step(0, 2);
        x.place(0, -3);
        x.place(1, 3);
        x.read(0);
        unknown(t, x, -3, -3);
        x.read(1);
        t.state("unknown(true) when nothing fits", () -> x.unknown(true));
        t.state("unknown(false) when nothing fits", () -> x.unknown(false));
    }
}
