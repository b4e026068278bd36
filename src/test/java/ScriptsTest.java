/** Promises 30 to 33: scripts, simulations, and the save slots. */
public final class ScriptsTest {
    private static final int NONE = StateObserver.NONE;

    public static void main(String[] args) {
        Checks t = new Checks();
        promise30Steps(t);
        promise30Readings(t);
        promise30Comparisons(t);
        promise30Order(t);
        promise30Refuses(t);
        promise31FirstReading(t);
        promise31Widths(t);
        promise31MoreOutputs(t);
        promise31Refuses(t);
        promise32Save(t);
        promise33Restore(t);
        promise33Refuses(t);
        t.finish();
    }

    private static void script(Checks t, StateObserver x, int n, long script, int want) {
        t.due("runScript(" + n + ", " + script + "L)", x.runScript(n, script), want);
    }

    private static void promise30Steps(Checks t) {
        StateObserver x = Checks.loaded("N11030r+16+01+02o+0101");
        // a step with the input 25 and the unknown input 3 leads to 31, one with -25 and -3 to -31
        script(t, x, 2, 1253_7031L, NONE);
        script(t, x, 2, 1253_7030L, 1);
        script(t, x, 1, 1254, 0);
        script(t, x, 1, 2254, 0);
        script(t, x, 4, 1993_2993_2003_7000L, NONE);
        script(t, x, 4, 2253_1323_3000_7006L, 3);
        script(t, x, 4, 2253_1323_3000_7007L, NONE);
        script(t, x, 4, 2253_1323_3000_5007L, NONE);
        script(t, x, 4, 2253_1323_3000_5008L, 3);
        t.due("state(0, 0)", x.state(0, 0), 0);
        t.due("the time", x.about(4), 0);
        t.state("output(0, 0)", () -> x.output(0, 0));
        t.state("undo()", x::undo);
    }

    private static void promise30Readings(Checks t) {
        StateObserver x = Checks.loaded("N22000r+16+00+01+00r+00+16+00+00o+01+0001o+00+0105");
        script(t, x, 1, 3000, NONE);
        script(t, x, 1, 3001, NONE);
        script(t, x, 1, 3002, 0);
        script(t, x, 1, 3010, 0);
        script(t, x, 1, 3100, 0);
        script(t, x, 1, 6000, 0);
        script(t, x, 2, 3001_6000L, 1);
        script(t, x, 2, 3001_6100L, NONE);
        script(t, x, 2, 3001_6110L, 1);
        script(t, x, 2, 3001_6101L, 1);
        script(t, x, 4, 3001_1000_2000_6102L, NONE);
        script(t, x, 1, 6200, 0);
        x.read(0);
        for (int i = 0; i < 9; i++) {
            x.step(0, 0);
        }
        script(t, x, 1, 6009, NONE);
        script(t, x, 1, 6008, 0);
        script(t, x, 2, 1000_6009L, 1);
        script(t, x, 2, 1000_6010L, 1);
    }

    private static void promise30Comparisons(Checks t) {
        StateObserver x = Checks.loaded("N21000r+16+00+00+00r+00+16+00+00o+00+0199");
        script(t, x, 1, 4099, 0);
        x.place(1, 120);
        x.read(0);
        // state 1 is from 99 to 197
        script(t, x, 1, 4198, NONE);
        script(t, x, 1, 4197, 0);
        script(t, x, 1, 5199, NONE);
        script(t, x, 1, 5099, 0);
        script(t, x, 1, 7199, 0);
        script(t, x, 1, 7000, NONE);
        x.place(1, 99);
        script(t, x, 1, 7199, NONE);
        script(t, x, 1, 7198, 0);
        script(t, x, 1, 4299, 0);
        script(t, x, 1, 5200, 0);
        script(t, x, 1, 7299, 0);
        script(t, x, 1, 4999, 0);
        x.place(0, -5);
        script(t, x, 1, 7000, NONE);
    }

    private static void promise30Order(Checks t) {
        StateObserver x = new StateObserver();
        script(t, x, 1, 0, 0);
        script(t, x, 4, 0, 0);
        script(t, x, 1, 8000, 0);
        script(t, x, 1, 9000, 0);
        script(t, x, 3, 1000, 0);
        script(t, x, 3, 3000_4000_8000L, 2);
        script(t, x, 3, 3000_4000_7000L, NONE);
        script(t, x, 4, 9999_9999_9999_9999L, 0);
        script(t, x, 4, 3000_3000_3000_9999L, 3);
    }

    private static void promise30Refuses(Checks t) {
        StateObserver x = new StateObserver();
        t.argument("runScript(0, 0)", () -> x.runScript(0, 0));
        t.argument("runScript(5, 0)", () -> x.runScript(5, 0));
        t.argument("runScript(-1, 0)", () -> x.runScript(-1, 0));
        t.argument("runScript(1, -1)", () -> x.runScript(1, -1));
        t.argument("runScript(1, 10000)", () -> x.runScript(1, 10000));
        t.argument("runScript(3, 10^12)", () -> x.runScript(3, 1000000000000L));
        t.argument("runScript(4, 10^16)", () -> x.runScript(4, 10000000000000000L));
        t.argument("runScript(4, the greatest long)", () -> x.runScript(4, Long.MAX_VALUE));
        t.argument("runScript(4, the least long)", () -> x.runScript(4, Long.MIN_VALUE));
    }

    private static int number(long x) {
        return (int) (x >>> 33);
    }

    private static long next(long x) {
        return x * 6364136223846793005L + 1442695040888963407L;
    }

    /** In a new object the interval keeps its width 2000 until the first reading, and has none after it. */
    private static void promise31FirstReading(Checks t) {
        StateObserver x = new StateObserver();
        for (long seed = -40; seed < 40; seed++) {
            for (int m = 1; m <= 5; m++) {
                long rounds = 0;
                long number = next(seed);
                while (rounds < m && number(number) / 8192 % 4 == 0) {
                    rounds++;
                    number = next(number);
                }
                t.due("simulate(" + seed + "L, " + m + ")", x.simulate(seed, m), 2000 * rounds);
            }
        }
        t.due("the time", x.about(4), 0);
        t.due("width()", x.width(), 2000);
        t.state("undo()", x::undo);
        t.due("simulate(the least long, 100)", x.simulate(Long.MIN_VALUE, 100), 0);
    }

    /** Two states that grow by the unknown input alone, each with an output of its own. */
    private static void promise31Widths(Checks t) {
        StateObserver x = Checks.loaded("N22070r+16+00+02+01r+00+16+01-02o+01+0001o+00+0107");
        for (long seed = 1000; seed < 1020; seed++) {
            long sum = 0;
            long number = seed;
            int[] least = {-1000, -1000};
            int[] greatest = {1000, 1000};
            int[] truth = {0, 0};
            for (int round = 0; round < 60; round++) {
                number = next(number);
                int r = number(number);
                int u = r % 21 - 10;
                int d = r / 32 % 15 - 7;
                truth[0] += 2 * u + d;
                truth[1] += u - 2 * d;
                for (int i = 0; i < 2; i++) {
                    least[i] += (2 - i) * u - 7 * (1 + i);
                    greatest[i] += (2 - i) * u + 7 * (1 + i);
                }
                if (r / 8192 % 4 != 0) {
                    int k = r / 32768 % 2;
                    int quantum = k == 0 ? 1 : 7;
                    int y = Math.floorDiv(truth[k], quantum);
                    least[k] = Math.max(least[k], quantum * y);
                    greatest[k] = Math.min(greatest[k], quantum * y + quantum - 1);
                }
                sum += greatest[0] - least[0] + greatest[1] - least[1];
            }
            t.due("simulate(" + seed + "L, 60)", x.simulate(seed, 60), sum);
        }
    }

    /** One of three outputs shows the state, and does so with the quantum 99. */
    private static void promise31MoreOutputs(Checks t) {
        StateObserver x = Checks.loaded("N13000r+16+00+00o+0001o+0099o+0199");
        for (long seed = 0; seed < 40; seed++) {
            long rounds = 0;
            long number = next(seed);
            while (rounds < 20 && (number(number) / 8192 % 4 == 0 || number(number) / 32768 % 3 != 2)) {
                rounds++;
                number = next(number);
            }
            t.due("simulate(" + seed + "L, 20)", x.simulate(seed, 20), 2000 * rounds + 98 * (20 - rounds));
        }
    }

    private static void promise31Refuses(Checks t) {
        StateObserver x = new StateObserver();
        t.argument("simulate(1L, 0)", () -> x.simulate(1L, 0));
        t.argument("simulate(1L, 101)", () -> x.simulate(1L, 101));
        t.argument("simulate(1L, -1)", () -> x.simulate(1L, -1));
    }

    private static void promise32Save(Checks t) {
        StateObserver x = new StateObserver();
        t.due("save(0)", x.save(0), 0);
        x.step(5, 0);
        t.due("save(1)", x.save(1), 1);
        x.step(5, 0);
        t.due("save(1) again", x.save(1), 2);
        t.due("undo(), for save is no action", x.undo(), 1);
        t.index("save(-1)", () -> x.save(-1));
        t.index("save(2)", () -> x.save(2));
        t.due("restore(1)", x.restore(1), 2);
        t.due("state(0, 0)", x.state(0, 0), 10);
        t.due("restore(0)", x.restore(0), 0);
        t.due("state(0, 0)", x.state(0, 0), 0);
    }

    private static void promise33Restore(Checks t) {
        StateObserver x = Checks.loaded("N11054r+16+01+01o+0101g00+16");
        x.place(0, 40);
        x.read(0);
        x.step(3, -2);
        x.read(0);
        x.step(1, 0);
        x.save(1);
        x.setGain(0, 0, 0);
        x.setHold(0);
        x.setBound(0);
        x.step(0, 0);
        x.read(0);
        x.append('x');
        t.due("restore(1)", x.restore(1), 2);
        t.state("undo(), for nothing is remembered", x::undo);
        int[] due = {42, 37, 47, 672, 672};
        for (int what = 0; what < due.length; what++) {
            t.due("state(0, " + what + ")", x.state(0, what), due[what]);
        }
        t.due("the last reading", x.output(0, 0), 41);
        t.due("the age", x.output(0, 1), 1);
        t.due("the gain", x.coefficient(5, 0, 0), 16);
        t.due("the hold", x.about(3), 4);
        t.due("the bound", x.about(2), 5);
        t.due("the unknown input", x.unknown(true), 5);
        t.due("the text is no part of the state", x.clearText(), 29);
        x.step(9, 0);
        x.setHold(8);
        t.due("restore(1), for the slot keeps its state", x.restore(1), 2);
        t.due("the hold", x.about(3), 4);
        t.due("state(0, 0)", x.state(0, 0), 42);
    }

    private static void promise33Refuses(Checks t) {
        StateObserver x = new StateObserver();
        x.step(1, 0);
        t.state("restore(0)", () -> x.restore(0));
        t.state("restore(1)", () -> x.restore(1));
        t.index("restore(2)", () -> x.restore(2));
        t.index("restore(-1)", () -> x.restore(-1));
        x.save(1);
        t.state("restore(0)", () -> x.restore(0));
        t.due("undo()", x.undo(), 0);
        t.due("restore(1)", x.restore(1), 1);
    }
}
