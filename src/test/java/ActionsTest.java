/** Promises 11 to 18: the actions, and undo. */
public final class ActionsTest {
    /** Two states that stay as they are; the outputs are their sum and their difference. */
    private static final String SUM_AND_DIFFERENCE = "N22000r+16+00+00+00r+00+16+00+00o+01+0101o+01-0101";

    public static void main(String[] args) {
        Checks t = new Checks();
        promise11Place(t);
        promise11FreshOutputs(t);
        promise12Step(t);
        promise12Limits(t);
        promise12Estimator(t);
        promise12Hold(t);
        promise12Rounding(t);
        promise12MoreOutputs(t);
        promise12Refuses(t);
        promise13Read(t);
        promise13ReadAgain(t);
        promise14Shave(t);
        promise14ShaveOneSide(t);
        promise14Refuses(t);
        promise15SetGain(t);
        promise16SetHold(t);
        promise17SetBound(t);
        promise18Undo(t);
        promise18Actions(t);
        promise18NoActions(t);
        t.finish();
    }

    private static void promise11Place(Checks t) {
        StateObserver x = new StateObserver();
        t.due("place(0, 1000)", x.place(0, 1000), 0);
        t.due("place(0, -1000)", x.place(0, -1000), 1000);
        t.due("place(0, 3)", x.place(0, 3), -1000);
        t.due("state(0, 0)", x.state(0, 0), 3);
        t.state("place(0, 1001)", () -> x.place(0, 1001));
        t.state("place(0, -1001)", () -> x.place(0, -1001));
        t.state("place(0, the greatest int)", () -> x.place(0, Integer.MAX_VALUE));
        t.index("place(1, 0)", () -> x.place(1, 0));
        t.index("place(-1, 5000)", () -> x.place(-1, 5000));
        t.due("state(0, 0)", x.state(0, 0), 3);
        t.due("undo()", x.undo(), 2);
        t.due("state(0, 0)", x.state(0, 0), -1000);
    }

    private static void promise11FreshOutputs(Checks t) {
        StateObserver x = Checks.loaded("N21000r+16+00+00+00r+00+16+00+00o+01+0110");
        x.place(0, 3);
        x.place(1, 4);
        t.due("read(0)", x.read(0), 0);
        t.due("canBe(0, -7, 0, 0)", x.canBe(0, -7, 0, 0), false);
        t.due("place(0, 5)", x.place(0, 5), 3);
        t.state("place(0, 6)", () -> x.place(0, 6));
        t.due("place(0, -4)", x.place(0, -4), 5);
        t.state("place(0, -5)", () -> x.place(0, -5));
        t.due("state(0, 0)", x.state(0, 0), -4);
        x.step(0, 0);
        t.due("place(0, 6) when nothing is fresh", x.place(0, 6), -4);
    }

    private static void state(Checks t, StateObserver x, int i, int... want) {
        for (int what = 0; what < want.length; what++) {
            t.due("state(" + i + ", " + what + ")", x.state(i, what), want[what]);
        }
    }

    private static void promise12Step(Checks t) {
        StateObserver x = Checks.loaded("N21050r+10-07+02+01r+03+05-01-03o+01+0001");
        x.place(0, 7);
        x.place(1, -9);
        t.due("step(4, -2)", x.step(4, -2), 1);
        state(t, x, 0, 14, -1060, 1075, 128);
        state(t, x, 1, 0, -519, 511, -64);
        t.due("step(0, 0)", x.step(0, 0), 2);
        state(t, x, 0, 8, -892, 903, 108);
        state(t, x, 1, 2, -376, 376, 4);
    }

    private static void promise12Limits(Checks t) {
        StateObserver x = Checks.loaded("N11990r+99+99+99o+0101");
        t.due("step(99, 99)", x.step(99, 99), 1);
        state(t, x, 0, 19602, -6188, 6187 + 19602, 156816);
        x.step(99, 99);
        x.step(99, 99);
        state(t, x, 0, 891352, -236914, 1000000, 7130840);
        x.step(99, 99);
        state(t, x, 0, 1000000, -1000000, 1000000, 16000000);
        StateObserver y = Checks.loaded("N11990r+99+99+99o+0101");
        for (int i = 0; i < 4; i++) {
            y.step(-99, -99);
        }
        state(t, y, 0, -1000000, -1000000, 1000000, -16000000);
    }

    private static void promise12Estimator(Checks t) {
        StateObserver x = Checks.loaded("N11002r+16+01+00o+0210g00+05");
        x.place(0, 7);
        t.due("read(0)", x.read(0), 1);
        int[] inputs = {3, 0, 0, 0};
        int[] estimates = {120, 117, 116, 116};
        for (int i = 0; i < 4; i++) {
            x.step(inputs[i], 0);
            t.due("estimate", x.state(0, 3), estimates[i]);
            t.due("age", x.output(0, 1), i + 1);
        }
    }

    private static void promise12Hold(Checks t) {
        StateObserver x = Checks.loaded("N21000r+16+00+01+00r+00+16+00+00o+01+0001g10-08");
        x.place(0, 100);
        x.step(0, 0);
        t.due("estimate without a reading", x.state(1, 3), 0);
        x.read(0);
        x.step(5, 0);
        t.due("estimate of state 0", x.state(0, 3), 80);
        t.due("estimate of state 1", x.state(1, 3), -800);
        x.step(0, 0);
        t.due("estimate beyond the hold", x.state(1, 3), -800);
        x.undo();
        x.setHold(1);
        x.setGain(1, 0, 8);
        x.step(0, 0);
        t.due("estimate within the hold, from the last reading", x.state(1, 3), -800 + 760);
    }

    private static void promise12Rounding(Checks t) {
        StateObserver x = Checks.loaded("N11009r+16+01+00o+0102g00+02");
        x.read(0);
        x.step(0, 0);
        t.due("estimate", x.state(0, 3), 1);
        x.setGain(0, 0, -7);
        x.step(0, 0);
        t.due("estimate, with -49 as the sum", x.state(0, 3), -3);
        x.setGain(0, 0, 1);
        x.step(0, 0);
        t.due("estimate, with 11 as the sum", x.state(0, 3), -3);
    }

    private static void promise12MoreOutputs(Checks t) {
        StateObserver x = Checks.loaded("N13002r+16+00+00o+0001o+0001o+0201g01+99g02+08");
        x.place(0, 50);
        x.read(2);
        x.step(0, 0);
        t.due("estimate", x.state(0, 3), 800);
        t.due("the age", x.output(2, 1), 1);
        x.step(0, 0);
        t.due("estimate", x.state(0, 3), 800);
        t.due("the age", x.output(2, 1), 2);
        t.state("output(1, 1)", () -> x.output(1, 1));
    }

    private static void promise12Refuses(Checks t) {
        StateObserver x = Checks.loaded("N11030r+16+01+01o+0101");
        t.argument("step(100, 0)", () -> x.step(100, 0));
        t.argument("step(-100, 0)", () -> x.step(-100, 0));
        t.argument("step(0, 4)", () -> x.step(0, 4));
        t.argument("step(0, -4)", () -> x.step(0, -4));
        t.argument("step(the least int, 0)", () -> x.step(Integer.MIN_VALUE, 0));
        t.argument("step(0, the least int)", () -> x.step(0, Integer.MIN_VALUE));
        t.due("the time", x.about(4), 0);
        t.state("undo()", x::undo);
        t.due("step(99, 3)", x.step(99, 3), 1);
        t.due("step(-99, -3)", x.step(-99, -3), 2);
        t.due("state(0, 0)", x.state(0, 0), 0);
    }

    private static void promise13Read(Checks t) {
        StateObserver x = Checks.loaded("N22000r+16+00+00+00r+00+16+00+00o+01-0203o+01+0010");
        x.place(0, 25);
        x.place(1, 7);
        t.due("read(0)", x.read(0), 3);
        state(t, x, 0, 25, -1000, 1000);
        state(t, x, 1, 7, -505, 495);
        t.due("read(1), which needs two passes", x.read(1), 2);
        state(t, x, 0, 25, 20, 29);
        state(t, x, 1, 7, 5, 10);
        x.step(0, 0);
        t.due("the age", x.output(0, 1), 1);
        t.due("read(0)", x.read(0), 3);
        t.due("the age", x.output(0, 1), 0);
        t.index("read(2)", () -> x.read(2));
        t.index("read(-1)", () -> x.read(-1));
        t.due("undo()", x.undo(), 5);
        t.due("the age", x.output(0, 1), 1);
    }

    /** The hundred passes of a reading can end before nothing changes any more; reading once more goes on then. */
    private static void promise13ReadAgain(Checks t) {
        StateObserver x = Checks.loaded("N22000r+16+00+00+00r+00+16+00+00o+07-0608o-06+0503");
        x.read(0);
        t.due("read(1)", x.read(1), 0);
        t.due("width()", x.width(), 209);
        t.due("read(0)", x.read(0), 0);
        t.due("width()", x.width(), 103);
        x.read(1);
        t.due("width()", x.width(), 103);
    }

    private static void promise14Shave(Checks t) {
        StateObserver x = Checks.loaded(SUM_AND_DIFFERENCE);
        x.read(0);
        x.read(1);
        t.due("width()", x.width(), 4000);
        t.due("shave(0, 5)", x.shave(0, 5), 10);
        state(t, x, 0, 0, -995, 995);
        state(t, x, 1, 0, -1000, 1000);
        for (int i = 0; i < 9; i++) {
            t.due("shave(0, 100)", x.shave(0, 100), 200);
        }
        t.due("shave(0, 100)", x.shave(0, 100), 190);
        t.due("shave(0, 100)", x.shave(0, 100), 0);
        state(t, x, 0, 0, 0, 0);
        state(t, x, 1, 0, -1000, 1000);
        t.due("undo()", x.undo(), 13);
        t.due("undo()", x.undo(), 12);
        state(t, x, 0, 0, -95, 95);
    }

    private static void promise14ShaveOneSide(Checks t) {
        StateObserver x = Checks.loaded("N22000r+16+00+00+00r+00+16+00+00o+01+0101o+01-0150");
        x.read(0);
        x.read(1);
        for (int i = 0; i < 9; i++) {
            t.due("shave(0, 100)", x.shave(0, 100), 200);
        }
        t.due("shave(0, 99)", x.shave(0, 99), 99 + 76);
        state(t, x, 0, 0, -1, 24);
        t.due("shave(0, 100)", x.shave(0, 100), 1);
        state(t, x, 0, 0, 0, 24);
        t.due("shave(0, 100)", x.shave(0, 100), 0);
        x.step(0, 0);
        t.due("shave(1, 100) when nothing is fresh", x.shave(1, 100), 0);
    }

    private static void promise14Refuses(Checks t) {
        StateObserver x = new StateObserver();
        t.index("shave(1, 1)", () -> x.shave(1, 1));
        t.index("shave(-1, 0)", () -> x.shave(-1, 0));
        t.argument("shave(0, 0)", () -> x.shave(0, 0));
        t.argument("shave(0, 101)", () -> x.shave(0, 101));
        t.due("shave(0, 1)", x.shave(0, 1), 0);
        t.due("shave(0, 100)", x.shave(0, 100), 0);
        t.due("undo()", x.undo(), 1);
    }

    private static void promise15SetGain(Checks t) {
        StateObserver x = Checks.loaded(SUM_AND_DIFFERENCE + "g10+07");
        t.due("setGain(1, 0, -99)", x.setGain(1, 0, -99), 7);
        t.due("setGain(1, 0, 99)", x.setGain(1, 0, 99), -99);
        t.due("setGain(0, 1, 5)", x.setGain(0, 1, 5), 0);
        t.due("coefficient(5, 1, 0)", x.coefficient(5, 1, 0), 99);
        t.index("setGain(2, 0, 0)", () -> x.setGain(2, 0, 0));
        t.index("setGain(0, 2, 0)", () -> x.setGain(0, 2, 0));
        t.index("setGain(-1, 0, 100)", () -> x.setGain(-1, 0, 100));
        t.index("setGain(0, -1, 0)", () -> x.setGain(0, -1, 0));
        t.argument("setGain(0, 0, 100)", () -> x.setGain(0, 0, 100));
        t.argument("setGain(0, 0, -100)", () -> x.setGain(0, 0, -100));
        t.due("undo()", x.undo(), 2);
        t.due("coefficient(5, 0, 1)", x.coefficient(5, 0, 1), 0);
    }

    private static void promise16SetHold(Checks t) {
        StateObserver x = new StateObserver();
        t.due("setHold(9)", x.setHold(9), 0);
        t.due("setHold(0)", x.setHold(0), 9);
        t.argument("setHold(10)", () -> x.setHold(10));
        t.argument("setHold(-1)", () -> x.setHold(-1));
        t.due("undo()", x.undo(), 1);
        t.due("about(3)", x.about(3), 9);
    }

    private static void promise17SetBound(Checks t) {
        StateObserver x = Checks.loaded("N11000r+16+01+02o+0101");
        t.due("setBound(99)", x.setBound(99), 0);
        t.due("setBound(3)", x.setBound(3), 99);
        t.argument("setBound(100)", () -> x.setBound(100));
        t.argument("setBound(-1)", () -> x.setBound(-1));
        x.step(0, -3);
        state(t, x, 0, -6, -1006, 1006);
        x.setBound(0);
        x.step(0, 0);
        state(t, x, 0, -6, -1006, 1006);
        t.argument("step(0, 1)", () -> x.step(0, 1));
    }

    private static void promise18Undo(Checks t) {
        StateObserver x = new StateObserver();
        for (int i = 1; i <= 16; i++) {
            x.step(i, 0);
        }
        for (int left = 13; left >= 0; left--) {
            t.due("undo()", x.undo(), left);
            t.due("the time", x.about(4), left + 2);
        }
        t.state("undo() of a forgotten action", x::undo);
        t.due("the time", x.about(4), 2);
        t.due("state(0, 0)", x.state(0, 0), 3);
        x.setHold(5);
        t.due("undo() after an action after undo()", x.undo(), 0);
        t.due("the hold", x.about(3), 0);
    }

    private static void promise18Actions(Checks t) {
        StateObserver x = Checks.loaded(SUM_AND_DIFFERENCE);
        x.place(0, 0);
        x.step(0, 0);
        x.read(0);
        x.shave(0, 1);
        x.setGain(0, 0, 0);
        x.setHold(0);
        x.setBound(0);
        for (int left = 6; left >= 0; left--) {
            t.due("undo()", x.undo(), left);
        }
        t.state("undo()", x::undo);
    }

    private static void promise18NoActions(Checks t) {
        StateObserver x = new StateObserver();
        x.setHold(1);
        t.index("place(1, 0)", () -> x.place(1, 0));
        t.state("place(0, 1001)", () -> x.place(0, 1001));
        t.argument("step(100, 0)", () -> x.step(100, 0));
        t.index("read(1)", () -> x.read(1));
        t.argument("shave(0, 0)", () -> x.shave(0, 0));
        t.argument("setGain(0, 0, 100)", () -> x.setGain(0, 0, 100));
        t.argument("setHold(10)", () -> x.setHold(10));
        t.argument("setBound(100)", () -> x.setBound(100));
        x.save(0);
        x.append('N');
        x.clearText();
        x.widthIf(0, 0);
        x.simulate(1, 3);
        x.runScript(1, 1010);
        t.due("undo()", x.undo(), 0);
        t.due("the hold", x.about(3), 0);
        t.state("undo()", x::undo);
        t.due("restore(0)", x.restore(0), 0);
        t.due("the hold that was saved", x.about(3), 1);
    }
}
