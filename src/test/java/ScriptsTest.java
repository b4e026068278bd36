/** Promises 30 to 33: scripts, simulations, and the save slots. */
public final class ScriptsTest {
    private static final int NONE = StateObserver.NONE;

    public static void main(String[] args) {
        Checks.main(ScriptsTest.class);
    }

    // ---- promise 30

    @Holds(promise = 30, sentence = "Runs a script on a copy of the state.")
    static void scriptOnACopy(Checks t) {
        t.run("plant(N22034r+16+04+02+01r-03+15+01-02o+01+0103o+01-0102g00+05g11-07); place(0, 9); read(0); step(3, -1); save(0)",
            "runScript(4, 1993200230003001) = NONE; runScript(4, 3001300030011001) = NONE; runScript(4, 1011101110111011) = NONE",
            "about(4) = 1; output(1, 0) = throws IllegalStateException; output(0, 1) = 1");
        // a command sees what those before it have done, and the next script does not
        t.run("runScript(2, 10507000L) = 1; runScript(1, 7000L) = NONE; runScript(2, 10507005L) = NONE; runScript(1, 7000L) = NONE",
            "runScript(2, 30006000) = NONE; runScript(1, 6000) = 0");
    }

    @Holds(promise = 30, sentence = "A script has 1 to 4 commands; each is a group of four decimal digits d1 d2 d3 d4, and the"
        + " first command is the highest group of the number.")
    static void orderOfTheCommands(Checks t) {
        t.run("runScript(1, 3000) = NONE; runScript(2, 30003000) = NONE; runScript(3, 300030003000) = NONE",
            "runScript(4, 3000300030003000) = NONE; runScript(4, 9999300030003000) = 0; runScript(4, 3000999930003000) = 1",
            "runScript(4, 3000300099993000) = 2; runScript(4, 3000300030009999) = 3; runScript(4, 9999999999999999) = 0",
            "runScript(3, 999930003000) = 0; runScript(3, 300030009999) = 2; runScript(2, 99993000) = 0; runScript(2, 30009999) = 1");
        // 10 and then -3 leads to 7; -3 alone does not lead to 10
        t.run("read(0); runScript(3, 110050102030) = NONE; runScript(3, 203050101100) = 1; runScript(4, 1100501020305007) = NONE",
            "runScript(4, 1100501020305008) = 3");
    }

    @Holds(promise = 30, sentence = "1 x y d: makes a step with the input xy (00 to 99) and the unknown input d; fails if d is"
        + " greater than the bound.")
    static void stepForwards(Checks t) {
        String plant = "plant(N11030r+16+01+02o+0101); ";
        t.run(plant + "runScript(2, 12537031) = NONE; runScript(2, 12537030) = 1; runScript(2, 12507025) = NONE",
            "runScript(2, 12507024) = 1; runScript(2, 10007000) = NONE; runScript(2, 19907099) = NONE; runScript(2, 19907098) = 1",
            "runScript(1, 1253) = NONE; runScript(1, 1254) = 0; runScript(1, 1259) = 0; runScript(3, 125312547000) = 1");
        t.run("runScript(1, 1990) = NONE; runScript(1, 1991) = 0; setBound(8); runScript(1, 1008) = NONE; runScript(1, 1009) = 0",
            "setBound(99); runScript(1, 1009) = NONE");
    }

    @Holds(promise = 30, sentence = "2 x y d: likewise with the inputs -xy and -d; fails if d is greater than the bound.")
    static void stepBackwards(Checks t) {
        // -25 and -3 lead to -31, from where 38 leads to 7
        t.run("plant(N11030r+16+01+02o+0101); runScript(3, 225313807007) = NONE; runScript(3, 225313807006) = 2",
            "runScript(4, 2253132330007007) = NONE; runScript(4, 2253132330007006) = 3; runScript(4, 2253132330005007) = NONE",
            "runScript(4, 2253132330005008) = 3; runScript(2, 29907000) = NONE; runScript(1, 2253) = NONE; runScript(1, 2254) = 0");
        t.run("setBound(9); runScript(2, 19987000) = 1; runScript(2, 19997000) = 1; runScript(2, 29987000) = NONE",
            "runScript(2, 29997000) = NONE");
        t.run("runScript(1, 2990) = NONE; runScript(1, 2991) = 0; setBound(8); runScript(1, 2008) = NONE; runScript(1, 2009) = 0",
            "setBound(99); runScript(1, 2009) = NONE");
    }

    @Holds(promise = 30, sentence = "3 0 0 k: reads output k; fails if there is no such output.")
    static void scriptReads(Checks t) {
        t.run("plant(N22000r+16+00+01+00r+00+16+00+00o+01+0001o+00+0105); runScript(1, 3000) = NONE; runScript(1, 3001) = NONE",
            "runScript(1, 3002) = 0; runScript(1, 3009) = 0; runScript(1, 3010) = 0; runScript(1, 3100) = 0; runScript(1, 3011) = 0",
            "runScript(2, 30006000) = NONE; runScript(2, 30014104) = NONE; runScript(2, 30014103) = 1; runScript(2, 30004000) = NONE",
            "runScript(2, 30004199) = 1");
        t.run("plant(N13000r+16+01+00o+0101o+0101o+0101); runScript(1, 3002) = NONE; runScript(1, 3003) = 0");
    }

    @Holds(promise = 30, sentence = {"4 i x y: succeeds if the width of the interval of state i is at most xy.",
        "5 i x y: succeeds if the lower bound of state i is at least xy.",
        "7 i x y: succeeds if the true value of state i is at most xy."})
    static void scriptCompares(Checks t) {
        // state 1 is from 99 to 197, and its true value is 120, then 99
        t.run("plant(N21000r+16+00+00+00r+00+16+00+00o+00+0199); runScript(1, 4199) = 0; runScript(1, 5100) = 0; place(1, 120)",
            "read(0); runScript(1, 4198) = NONE; runScript(1, 4197) = 0; runScript(1, 4199) = NONE; runScript(1, 4099) = 0",
            "runScript(1, 5199) = NONE; runScript(1, 5100) = NONE; runScript(1, 5099) = 0; runScript(1, 7199) = 0; place(1, 99)",
            "runScript(1, 7199) = NONE; runScript(1, 7198) = 0; runScript(1, 7000) = NONE; place(0, 1); runScript(1, 7000) = 0",
            "runScript(1, 7001) = NONE; place(0, -5); runScript(1, 7000) = NONE");
        t.run("read(0); runScript(1, 4000) = NONE; runScript(1, 5000) = NONE; runScript(1, 5001) = 0; runScript(1, 7000) = NONE",
            "step(-1, 0); runScript(1, 5000) = 0; runScript(1, 7000) = NONE; runScript(1, 4000) = NONE; step(2, 0)",
            "runScript(1, 7000) = 0; runScript(1, 7001) = NONE; runScript(1, 5001) = NONE; runScript(1, 5002) = 0");
    }

    @Holds(promise = 30, sentence = "6 k 0 h: succeeds if output k was read and its age is h.")
    static void scriptLooksAtAges(Checks t) {
        t.run("plant(N12000r+16+01+00o+0101o+0101); runScript(1, 6000) = 0; runScript(1, 6009) = 0; read(0); runScript(1, 6000) = NONE",
            "runScript(1, 6001) = 0; runScript(1, 6100) = 0; 9 times step(0, 0); runScript(1, 6009) = NONE; runScript(1, 6008) = 0",
            "runScript(2, 10006009) = 1; step(0, 0); runScript(1, 6000) = 0; runScript(1, 6010) = 0; runScript(1, 6009) = 0",
            "runScript(1, 6001) = 0; runScript(4, 3001100020006102) = NONE; runScript(2, 30016000) = 1; runScript(2, 30006000) = NONE");
        for (int h = 0; h <= 9; h++) {
            t.run("step(0, 0); runScript(1, 600" + h + ") = 0; read(0); undo(); runScript(1, 600" + h + ") = 0");
        }
    }

    @Holds(promise = 30,
        sentence = "Commands with a state or output that does not exist fail, and so does any other group.")
    static void eachGroup(Checks t) {
        StateObserver x = null;
        for (int group = 0; group <= 9999; group++) {
            if (group % 400 == 0) {
                x = Checks.written("N22030r+16+00+01+00r+00+16+00+00o+01+0050o+00+0150");
                x.load();
                x.place(0, 60);
                x.place(1, -7);
                x.read(0);
                x.step(20, 0);
                x.step(3, 0);
            }
            // state 0 is from 73 to 122 and has the value 83; output 0 has the age 2; nothing else was read
            int who = group / 100 % 10;
            int most = group % 100;
            boolean succeeds;
            switch (group / 1000) {
                case 1: case 2:
                    succeeds = group % 10 <= 3;
                    break;
                case 3:
                    succeeds = group == 3000 || group == 3001;
                    break;
                case 4:
                    succeeds = who == 0 && most >= 49;
                    break;
                case 5:
                    succeeds = who == 0 && most <= 73;
                    break;
                case 6:
                    succeeds = group == 6002;
                    break;
                case 7:
                    succeeds = who == 0 && most >= 83 || who == 1;
                    break;
                default:
                    succeeds = false;
            }
            t.due("runScript(1, " + group + ")", x.runScript(1, group), succeeds ? NONE : 0);
        }
    }

    @Holds(promise = 30, sentence = "- `n`: number of commands, 1 to 4")
    static void fewestAndMostCommands(Checks t) {
        t.run("runScript(1, 3000) = NONE; runScript(4, 3000300030003000) = NONE; runScript(0, 0) = throws IllegalArgumentException",
            "runScript(5, 0) = throws IllegalArgumentException; runScript(5, 30003000) = throws IllegalArgumentException");
    }

    @Holds(promise = 30, sentence = "Returns the index, from 0, of the first command that fails; NONE if all succeed.")
    static void firstCommandThatFails(Checks t) {
        t.run("runScript(4, 9999999999999999) = 0; runScript(4, 3000999999999999) = 1; runScript(4, 3000300099999999) = 2",
            "runScript(4, 3000300030009999) = 3; runScript(4, 3000300030003000) = NONE; runScript(3, 300099993000) = 1",
            "runScript(4, 3000999930003000) = 1");
        // what stands behind the command that fails is not run: only the step that comes first is made
        t.run("runScript(3, 110099991100) = 1; runScript(3, 110011007020) = NONE; runScript(3, 110011007019) = 2");
    }

    @Holds(promise = 30, sentence = "- `script`: the commands, a number of at most 4 * n digits (0 or more)")
    static void shortScripts(Checks t) {
        // leading zeros belong to the commands
        t.run("runScript(1, 0) = 0; runScript(2, 0) = 0; runScript(3, 0) = 0; runScript(4, 0) = 0; runScript(2, 3000) = 0",
            "runScript(3, 30003000) = 0; runScript(4, 300030003000) = 0; runScript(1, 9999) = 0; runScript(2, 30000000) = 1");
    }

    @Holds(promise = 30, sentence = "Throws `IllegalArgumentException` if n is out of range, or if script is negative or has"
        + " more than 4 * n digits")
    static void scriptOutOfRange(Checks t) {
        t.run("runScript(0, 0) = throws IllegalArgumentException; runScript(5, 0) = throws IllegalArgumentException",
            "runScript(-1, 3000) = throws IllegalArgumentException; runScript(2147483647, 0) = throws IllegalArgumentException",
            "runScript(-2147483648, 0) = throws IllegalArgumentException; runScript(1, -1) = throws IllegalArgumentException",
            "runScript(4, -1) = throws IllegalArgumentException; runScript(1, 9999) = 0; runScript(1, 10000) = throws IllegalArgumentException",
            "runScript(2, 99999999) = 0; runScript(2, 100000000) = throws IllegalArgumentException; runScript(3, 999999999999) = 0",
            "runScript(3, 1000000000000) = throws IllegalArgumentException; runScript(4, 9999999999999999) = 0",
            "runScript(4, 10000000000000000) = throws IllegalArgumentException",
            "runScript(4, 9223372036854775807) = throws IllegalArgumentException",
            "runScript(4, -9223372036854775808) = throws IllegalArgumentException",
            "runScript(1, 4294970296) = throws IllegalArgumentException; runScript(0, -1) = throws IllegalArgumentException");
    }

    // ---- promise 31

    private static long next(long x) {
        return x * 6364136223846793005L + 1442695040888963407L;
    }

    /** What simulate must answer, by the calls of the face on an object of its own. */
    private static long byCalls(StateObserver x, long seed, int m) {
        long number = seed;
        long sum = 0;
        for (int round = 0; round < m; round++) {
            number = next(number);
            int r = (int) (number >>> 33);
            int bound = x.about(2);
            x.step(r % 21 - 10, r / 32 % (2 * bound + 1) - bound);
            if (r / 8192 % 4 != 0) {
                x.read(r / 32768 % x.about(1));
            }
            sum += x.width();
        }
        return sum;
    }

    @Holds(promise = 31, sentence = {"A long x starts as the seed. Each round first replaces x by x * 6364136223846793005L +"
        + " 1442695040888963407L (with long overflow), and r = (int) (x >>> 33) is computed. A step is made with the input r %"
        + " 21 - 10 and the unknown input r / 32 % (2 * bound + 1) - bound. Then, if r / 8192 % 4 is not 0, output r / 32768 % p"
        + " is read.", "Returns the sum, over all rounds, of the sum of all widths after the round."})
    static void roundsAsCalls(Checks t) {
        String[] texts = {"N11000r+16+01+00o+0101", "N22070r+16+00+02+01r+00+16+01-02o+01+0001o+00+0107",
            "N13000r+16+00+00o+0001o+0099o+0199", "N11990r+99+99+99o-0303", "N43021r+16+04+00+00+00+01r-04+16+00+00+01+00"
            + "r+00+02+14+02+00+00r+00+00-02+14+00+03o+01+00+00+0010o+00+00+01+0003o+01-01+00+0150"};
        for (String text : texts) {
            for (long seed : new long[] {0, 1, -1, 77, Long.MAX_VALUE, Long.MIN_VALUE, 1L << 32, -987654321987654321L}) {
                for (int m : new int[] {1, 2, 3, 10, 99, 100}) {
                    StateObserver x = Checks.written(text);
                    x.load();
                    StateObserver y = Checks.written(text);
                    y.load();
                    x.read(0);
                    y.read(0);
                    t.due("simulate(" + seed + "L, " + m + ") of " + text, x.simulate(seed, m), byCalls(y, seed, m));
                }
            }
        }
    }

    /** In a new object the interval keeps its width 2000 until the first reading, and has none after it. */
    @Holds(promise = 31, sentence = "- `m`: number of rounds, 1 to 100")
    static void fewestAndMostRounds(Checks t) {
        String shut = "plant(N11010r+16+00+01o+0001); ";
        // nothing is shown, so that the width grows by 2 in each round
        t.run(shut + "simulate(9L, 1) = 2002; simulate(9L, 2) = 4006; simulate(9L, 100) = 210100; simulate(9L, 99) = 207900");
    }

    @Holds(promise = 31, sentence = "- `seed`: any long")
    static void firstReadingOfASimulation(Checks t) {
        for (long seed = -40; seed < 40; seed++) {
            for (int m = 1; m <= 5; m++) {
                long rounds = 0;
                long number = next(seed);
                while (rounds < m && (int) (number >>> 33) / 8192 % 4 == 0) {
                    rounds++;
                    number = next(number);
                }
                t.due("simulate(" + seed + "L, " + m + ")", new StateObserver().simulate(seed, m), 2000 * rounds);
            }
        }
        t.run("simulate(-9223372036854775808L, 100) = 0; simulate(9223372036854775807L, 1) = 0; simulate(0, 100) = 0");
    }

    @Holds(promise = 31, sentence = "Simulates m rounds on a copy of the state.")
    static void simulationOnACopy(Checks t) {
        t.run("plant(N22034r+16+04+02+01r-03+15+01-02o+01+0103o+01-0102g00+05g11-07); place(0, 9); read(0); step(3, -1); save(1)",
            "simulate(5L, 100); simulate(-5L, 1); about(4) = 1; output(1, 0) = throws IllegalStateException");
        StateObserver x = new StateObserver();
        long first = x.simulate(3, 50);
        t.due("simulate(3, 50) again", x.simulate(3, 50), first);
    }

    @Holds(promise = 31, sentence = "Returns the sum, over all rounds, of the sum of all widths after the round.")
    static void greatestSumOfWidths(Checks t) {
        // 100 rounds with four intervals of the width 2000000
        t.run("plant(N41000r+99+00+00+00+00+00r+00+99+00+00+00+00r+00+00+99+00+00+00r+00+00+00+99+00+00o+00+00+00+0001)",
            "4 times step(0, 0); simulate(1L, 100) = 800000000");
    }

    @Holds(promise = 31, sentence = "Throws `IllegalArgumentException` if m is out of range")
    static void simulationOutOfRange(Checks t) {
        t.run("simulate(1L, 0) = throws IllegalArgumentException; simulate(1L, 101) = throws IllegalArgumentException",
            "simulate(1L, -1) = throws IllegalArgumentException; simulate(1L, 2147483647) = throws IllegalArgumentException",
            "simulate(1L, -2147483648) = throws IllegalArgumentException");
    }

    // ---- promise 32

    @Holds(promise = 32, sentence = "- `slot`: 0 or 1")
    static void bothSlots(Checks t) {
        t.run("setHold(3); save(0) = 0; setHold(4); save(1) = 0; setHold(5); restore(0) = 0; about(3) = 3; restore(1) = 0; about(3) = 4",
            "save(0) = 0; restore(0) = 0; about(3) = 4; save(2) = throws IndexOutOfBoundsException",
            "save(-1) = throws IndexOutOfBoundsException");
    }

    @Holds(promise = 32, sentence = {"Stores the present state in a slot.", "Returns the time."})
    static void savedState(Checks t) {
        t.run("save(0) = 0; step(5, 0); save(1) = 1; step(5, 0); save(1) = 2; undo() = 1; restore(1) = 2; state(0, 0) = 10",
            "restore(0) = 0; state(0, 0) = 0; restore(1) = 2");
        t.run("step(5, 0); save(0) = 1; step(5, 0); state(0, 0) = 10; restore(0) = 1; state(0, 0) = 5; save(1) = 1; save(0) = 1");
    }

    @Holds(promise = 32, sentence = "Throws `IndexOutOfBoundsException` if there is no such slot")
    static void saveInNoSlot(Checks t) {
        t.run("save(2) = throws IndexOutOfBoundsException; save(-1) = throws IndexOutOfBoundsException",
            "save(2147483647) = throws IndexOutOfBoundsException; save(-2147483648) = throws IndexOutOfBoundsException",
            "restore(0) = throws IllegalStateException; restore(1) = throws IllegalStateException");
    }

    // ---- promise 33

    @Holds(promise = 33, sentence = "- `slot`: 0 or 1")
    static void bothSlotsAgain(Checks t) {
        t.run("step(7, 0); save(1) = 1; step(1, 0); save(0) = 2; step(1, 0); restore(1) = 1; state(0, 0) = 7; restore(0) = 2",
            "state(0, 0) = 8; restore(2) = throws IndexOutOfBoundsException; restore(-1) = throws IndexOutOfBoundsException");
    }

    @Holds(promise = 33, sentence = "Replaces the state by the one in a slot,")
    static void restoredState(Checks t) {
        String saved = "plant(N11054r+16+01+01o+0101g00+16); place(0, 40); read(0); step(3, -2); read(0); step(1, 0); save(1); ";
        String changed = "setGain(0, 0, 0); setHold(0); setBound(0); step(0, 0); read(0); place(0, 42); ";
        t.run(saved + changed + "append(63); restore(1) = 2; state(0, 0) = 42; state(0, 1) = 37; state(0, 2) = 47; state(0, 3) = 672",
            "output(0, 0) = 41; output(0, 1) = 1; coefficient(5, 0, 0) = 16; about(2) = 5; about(3) = 4; about(4) = 2",
            "unknown(true) = 5; unknown(false) = -5; clearText() = 29");
        t.due("the state is the same", Run.seenAfter(saved + changed + "restore(1)").equals(Run.seenAfter(saved)), true);
        // the state at first, in which nothing was read and no step was made
        t.run("save(0); step(1, 0); read(0); restore(0) = 0; output(0, 1) = throws IllegalStateException",
            "unknown(true) = throws IllegalStateException; width() = 2000");
    }

    @Holds(promise = 33, sentence = {"and forgets all remembered states.", "Returns the time then."})
    static void restoreForgets(Checks t) {
        t.run("step(1, 0); save(0); step(1, 0); step(1, 0); restore(0) = 1; undo() = throws IllegalStateException; step(1, 0) = 2",
            "undo() = 0; undo() = throws IllegalStateException; about(4) = 1");
        t.run("20 times step(1, 0); save(1) = 20; restore(1) = 20; undo() = throws IllegalStateException; 15 times step(1, 0) = 35",
            "14 times undo() = 0; about(4) = 21; undo() = throws IllegalStateException");
    }

    @Holds(promise = 33, sentence = "The slot keeps its state.")
    static void slotKeepsItsState(Checks t) {
        t.run("step(4, 0); save(1) = 1; restore(1) = 1; step(9, 0); setHold(8); read(0); restore(1) = 1; state(0, 0) = 4",
            "about(3) = 0; width() = 2000; setGain(0, 0, 5); restore(1) = 1; coefficient(5, 0, 0) = 0; output(0, 0) = throws IllegalStateException");
    }

    @Holds(promise = 33, sentence = "Throws `IndexOutOfBoundsException` if there is no such slot")
    static void restoreFromNoSlot(Checks t) {
        t.run("save(0); save(1); step(1, 0); restore(2) = throws IndexOutOfBoundsException; restore(-1) = throws IndexOutOfBoundsException",
            "restore(2147483647) = throws IndexOutOfBoundsException; restore(-2147483648) = throws IndexOutOfBoundsException; undo() = 0");
    }

    @Holds(promise = 33, sentence = "Throws `IllegalStateException` if the slot is empty")
    static void restoreFromAnEmptySlot(Checks t) {
        t.run("step(1, 0); restore(0) = throws IllegalStateException; restore(1) = throws IllegalStateException; save(1)",
            "restore(0) = throws IllegalStateException; undo() = 0; restore(1) = 1; restore(0) = throws IllegalStateException");
        t.run("save(0); restore(1) = throws IllegalStateException; restore(0) = 0");
        t.run("save(0); save(1); plant(N11000r+16+01+00o+0101); restore(0) = throws IllegalStateException",
            "restore(1) = throws IllegalStateException");
    }
}
