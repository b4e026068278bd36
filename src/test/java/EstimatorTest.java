/** What the document says of the estimator. */
public final class EstimatorTest {
    public static void main(String[] args) {
        Checks.main(EstimatorTest.class);
    }

    @Holds(promise = {1, 5, 7, 8}, in = "THE ESTIMATOR", sentence = "The estimator has an estimate for each state, an int"
        + " in sixteenths, 0 at first, a gain G(i, k) for each state i and output k, -99 to 99, 0 at first, and a hold, 0 to"
        + " 9.")
    static void estimatorAtFirst(Checks t) {
        t.run("state(0, 3) = 0; coefficient(5, 0, 0) = 0; about(3) = 0");
        t.run("plant(N22009r+16+00+00+00r+00+16+00+00o+01+0001o+00+0101g01-99g10+99); state(0, 3) = 0; state(1, 3) = 0",
            "coefficient(5, 0, 0) = 0; coefficient(5, 0, 1) = -99; coefficient(5, 1, 0) = 99; coefficient(5, 1, 1) = 0",
            "about(3) = 9");
        t.run("step(1, 0); state(0, 3) = 16");
    }

    @Holds(promise = {9, 12, 13}, in = "THE ESTIMATOR", sentence = "The age of an output is the number of steps since it was"
        + " last read (none if it was never read); a fresh output has the age 0.")
    static void ageOfAnOutput(Checks t) {
        String two = "plant(N12000r+16+01+00o+0101o+0101); ";
        t.run(two + "output(0, 1) = throws IllegalStateException; step(0, 0); output(0, 1) = throws IllegalStateException",
            "read(0); output(0, 1) = 0; output(1, 1) = throws IllegalStateException; step(0, 0); output(0, 1) = 1",
            "output(1, 1) = throws IllegalStateException; read(1); output(1, 1) = 0; step(0, 0); output(0, 1) = 2",
            "output(1, 1) = 1; read(0); output(0, 1) = 0; output(1, 1) = 1");
        t.run(two + "read(1); 200 times step(0, 0); output(1, 1) = 200; read(1); output(1, 1) = 0");
    }

    @Holds(promise = 12, in = "THE ESTIMATOR", sentence = {"In a step, for each output k let r(k) be 16 * quantum(k) * y + 8 *"
        + " (quantum(k) - 1) - (the sum of C(k, j) times the estimate of state j),", "where y is the last reading of output"
        + " k,"})
    static void deviationOfAReading(Checks t) {
        // 16 * 10 * 1 + 8 * 9 - 2 * the estimate, which is 0, 120, 117
        t.run("plant(N11009r+16+01+00o+0210g00+05); place(0, 7); read(0) = 1; step(3, 0); state(0, 3) = 120; step(0, 0)",
            "state(0, 3) = 117; step(0, 0); state(0, 3) = 116");
        t.run("plant(N11009r+16+01+00o+0210g00+16); place(0, -1); read(0) = -1; step(0, 0); state(0, 3) = -88");
        t.run("plant(N11009r+16+01+00o+0199g00+16); place(0, 99); read(0) = 1; step(0, 0); state(0, 3) = 2368");
        t.run("plant(N11009r+16+01+00o-0301g00+16); place(0, 10); read(0) = -30; step(1, 0); state(0, 3) = -464; step(0, 0)",
            "state(0, 3) = -2336");
        // the true value is another one since, but not the last reading
        t.run("plant(N11009r+16+00+01o+0101g00+16); setBound(9); place(0, 10); read(0) = 10; step(0, 9); state(0, 3) = 160",
            "setGain(0, 0, 8); step(0, 9); state(0, 3) = 160; read(0) = 28; step(0, 0); state(0, 3) = 304");
        t.run("plant(N21009r+16+00+01+00r+00+16+03+00o+02-0101g10+16); step(5, 0); state(0, 3) = 80; state(1, 3) = 240",
            "read(0) = -5; step(0, 0); state(0, 3) = 80; state(1, 3) = 240");
    }

    @Holds(promise = {12, 16}, in = "THE ESTIMATOR",
        sentence = "if the age of output k before the step is at most the hold; otherwise,")
    static void lastReadingWithinTheHold(Checks t) {
        for (int hold = 0; hold <= 9; hold++) {
            // the factor of the output is 0, so that each step in the hold adds 8 * (the quantum - 1)
            t.run("plant(N11000r+16+00+00o+0003g00+16); setHold(" + hold + "); read(0); " + (hold + 1) + " times step(0, 0); state(0, 3) = " + 16 * (hold + 1),
                "step(0, 0); state(0, 3) = " + 16 * (hold + 1));
        }
        // a hold that grows makes an old reading count again, and a smaller one makes it count no more
        t.run("plant(N11000r+16+00+00o+0003g00+16); read(0); step(0, 0); state(0, 3) = 16; step(0, 0); state(0, 3) = 16",
            "setHold(1); step(0, 0); state(0, 3) = 16; setHold(3); step(0, 0); state(0, 3) = 32; setHold(0); step(0, 0)",
            "state(0, 3) = 32; read(0); step(0, 0); state(0, 3) = 48");
    }

    @Holds(promise = 12, in = "THE ESTIMATOR", sentence = "or if it was never read, r(k) is 0.")
    static void outputThatWasNeverRead(Checks t) {
        t.run("plant(N11009r+16+01+00o+0101g00+16); step(5, 0); state(0, 3) = 80; step(0, 0); state(0, 3) = 80");
        t.run("plant(N13009r+16+00+00o+0001o+0001o+0201g01+99g02+08); place(0, 50); read(2); step(0, 0); state(0, 3) = 800",
            "step(0, 0); state(0, 3) = 800");
        // the reading is taken back, and then it was never made
        t.run("plant(N11009r+16+01+00o+0101g00+16); place(0, 9); read(0); undo(); step(1, 0); state(0, 3) = 16");
    }

    @Holds(promise = 12, in = "THE ESTIMATOR",
        sentence = "The estimate of state i becomes floor(s / 16) + 16 * b(i) * u + floor(g / 16),")
    static void estimateInAStep(Checks t) {
        t.run("plant(N11000r+10+01+00o+0101); step(3, 0); state(0, 3) = 48; step(-4, 0); state(0, 3) = -34; step(0, 0)",
            "state(0, 3) = -22");
        t.run("plant(N11000r+00+99+00o+0101); step(99, 0); state(0, 3) = 156816; step(-99, 0); state(0, 3) = -156816");
        // the deviations 16, 15, 15: a sum of 15 adds nothing, one of -15 takes 1 off
        t.run("plant(N11009r+16+00+00o+0103g00+01); read(0); step(0, 0); state(0, 3) = 1; step(0, 0); state(0, 3) = 1",
            "setGain(0, 0, -1); step(0, 0); state(0, 3) = 0; step(0, 0); state(0, 3) = -1");
        // both sums are rounded, each by itself: 8 / 16 and 8 / 16, then 8 / 16 and -8 / 16
        t.run("plant(N11009r+08+00+00o+0002g00+02); read(0); step(0, 0); state(0, 3) = 1; setGain(0, 0, 1); step(0, 0)",
            "state(0, 3) = 0");
        t.run("plant(N11009r+08+00+00o+0002g00+02); read(0); step(0, 0); state(0, 3) = 1; setGain(0, 0, -1); step(0, 0)",
            "state(0, 3) = -1; setGain(0, 0, 0); step(0, 0); state(0, 3) = -1; step(0, 0); state(0, 3) = -1");
    }

    @Holds(promise = 12, in = "THE ESTIMATOR", sentence = "limited to -16000000 to 16000000,")
    static void estimateIsLimited(Checks t) {
        String growing = "plant(N21000r+99+00+99+00r+16+00+01+00o+00+0103); ";
        t.run(growing + "4 times step(99, 0); state(0, 3) = 16000000; step(-1, 0); state(1, 3) = 15999984; state(0, 3) = 16000000",
            "step(0, 0); state(1, 3) = 16000000; step(1, 0); state(1, 3) = 16000000; step(99, 0); state(1, 3) = 16000000");
        t.run(growing + "4 times step(-99, 0); state(0, 3) = -16000000; step(1, 0); state(1, 3) = -15999984",
            "step(0, 0); state(1, 3) = -16000000; step(-1, 0); state(1, 3) = -16000000; step(-99, 0); state(1, 3) = -16000000");
        // a sixteenth more or less, by the gain
        String byGain = "plant(N21000r+99+00+99+00r+16+00+00+00o+00+0003); ";
        t.run(byGain + "4 times step(99, 0); read(0); setGain(1, 0, -1); step(0, 0); state(1, 3) = 15999999; read(0)",
            "setGain(1, 0, 1); step(0, 0); state(1, 3) = 16000000");
        t.run(byGain + "4 times step(-99, 0); read(0); setGain(1, 0, 1); step(0, 0); state(1, 3) = -15999999; read(0)",
            "setGain(1, 0, -1); step(0, 0); state(1, 3) = -16000000");
    }

    @Holds(promise = 12, in = "THE ESTIMATOR", sentence = "where s is the sum of A(i, j) times the estimate of state j and g"
        + " the sum of G(i, k) * r(k), all with the values before the step")
    static void estimatesBeforeTheStep(Checks t) {
        t.run("plant(N21000r+10-07+02+01r+03+05-01-03o+01+0001); step(4, 0); state(0, 3) = 128; state(1, 3) = -64; step(0, 0)",
            "state(0, 3) = 108; state(1, 3) = 4");
        t.run("plant(N21000r+00+16+01+00r+16+00+02+00o+01+0001); step(1, 0); state(0, 3) = 16; state(1, 3) = 32; step(0, 0)",
            "state(0, 3) = 32; state(1, 3) = 16");
        // two deviations of 8: their sum is rounded, not each of them; and the deviation 8 alone
        t.run("plant(N12000r+16+00+00o+0002o+0002g00+01g01+01); read(0); read(1); step(0, 0); state(0, 3) = 1");
        t.run("plant(N12000r+16+00+00o+0002o+0002g00+01g01+01); read(1); step(0, 0); state(0, 3) = 0");
        t.run("plant(N12000r+16+00+00o+0002o+0002g00+01g01-03); read(0); read(1); step(0, 0); state(0, 3) = -1");
        // the estimate that the deviation takes off is the one before the step, too
        t.run("plant(N22000r+16+00+01+00r+00+16+00+00o+01+0001o+00+0101g10-08); place(0, 100); step(0, 0); read(0)",
            "step(5, 0); state(0, 3) = 80; state(1, 3) = -800; step(0, 0); state(1, 3) = -800; undo(); setHold(1)",
            "setGain(1, 0, 8); step(0, 0); state(1, 3) = -40");
    }

    @Holds(promise = 12, in = "THE ESTIMATOR", sentence = "(computed exactly).")
    static void sumsBeyondAnInt(Checks t) {
        String grown = "; place(0, 1000); place(1, 1000); place(2, 1000); place(3, 1000); 4 times step(0, 0); ";
        String four = "plant(N41000r+99+00+00+00+00+00r+00+99+00+00+00+00r+00+00+99+00+00+00r+00+00+00+99+00+00";
        // 16 * 200000000
        t.run(four + "o+50+50+50+5001g00+01g10-01)" + grown + "read(0) = 200000000; step(0, 0); state(0, 3) = 16000000",
            "state(1, 3) = -16000000; state(2, 3) = 0");
        // 99 * 32000000
        t.run(four + "o+02+00+00+0001g00+99g10-99)" + grown + "read(0) = 2000000; step(0, 0); state(0, 3) = 16000000",
            "state(1, 3) = -16000000");
        // 4 * 50 * 16000000
        String row = "+50+50+50+50";
        String full = "plant(N41000r" + row + "+99+00r" + row + "+99+00r" + row + "+99+00r" + row + "+99+00o" + row + "01g00+01); ";
        t.run(full + "4 times step(99, 0); state(0, 3) = 16000000; step(0, 0); state(0, 3) = 16000000");
        t.run(full + "4 times step(-99, 0); state(0, 3) = -16000000; step(0, 0); state(0, 3) = -16000000");
        // the sums are too great for an int, but what they make together is not: 16 * y is 16 * 396000000 for both outputs
        t.run(four.replace("N41", "N42") + "o+99+99+99+9901o+99+99+99+9802g00+01g01-01)" + grown + "read(0) = 396000000; read(1) = 197500000; step(0, 0)",
            "state(0, 3) = 999999");
    }
}
