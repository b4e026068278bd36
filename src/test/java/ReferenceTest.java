import java.util.Random;

/** Long runs of calls, chosen by a fixed seed, on the class and on the reference beside it. */
public final class ReferenceTest {
    private static final int RUNS = 1200;
    private static final int CALLS = 510;

    /** A call on both objects; the last row of a failing run names it. */
    private interface Call {
        long on(StateObserver x, Reference r, boolean onReference);
    }

    private final Random random;
    private final StateObserver x = new StateObserver();
    private final Reference r = new Reference();
    private final StringBuilder story = new StringBuilder();
    private int states = 1;
    private int outputs = 1;
    private int calls = 0;
    private boolean wrong = false;

    private ReferenceTest(long seed) {
        random = new Random(seed);
    }

    public static void main(String[] args) {
        long first = args.length > 0 ? Long.parseLong(args[0]) : 0;
        long calls = 0;
        for (long seed = first; seed < first + RUNS; seed++) {
            ReferenceTest run = new ReferenceTest(seed);
            run.go();
            calls += run.calls;
            if (run.wrong) {
                System.out.println("run " + seed + ":\n" + run.story);
                System.exit(1);
            }
        }
        System.out.println(calls + " calls answered as the reference does");
    }

    private void go() {
        if (random.nextInt(20) != 0) {
            write(systemText());
        }
        while (calls < CALLS && !wrong) {
            if (calls < CALLS - 210 && random.nextInt(150) == 0) {
                rewrite();
            } else if (random.nextInt(3) == 0) {
                question();
            } else {
                action();
            }
        }
    }

    // ---- texts

    private void write(String text) {
        for (int i = 0; i < text.length() && !wrong; i++) {
            char character = text.charAt(i);
            check("append(" + (int) character + ")", (x, r, ref) -> ref ? r.append(character) : x.append(character));
        }
        check("errorPosition()", (x, r, ref) -> ref ? r.errorPosition() : x.errorPosition());
        check("load()", (x, r, ref) -> ref ? r.load() : x.load());
        states = (int) r.about(0);
        outputs = (int) r.about(1);
    }

    private void rewrite() {
        if (random.nextBoolean()) {
            check("clearText()", (x, r, ref) -> ref ? r.clearText() : x.clearText());
            StringBuilder text = new StringBuilder(systemText());
            if (random.nextBoolean()) {
                spoil(text);
            }
            write(text.toString());
        } else {
            write("gr+-0".substring(random.nextInt(4)));
        }
    }

    private void spoil(StringBuilder text) {
        int at = random.nextInt(text.length());
        switch (random.nextInt(3)) {
            case 0:
                text.setLength(at);
                break;
            case 1:
                text.setCharAt(at, "Nrog+-0123459 ".charAt(random.nextInt(14)));
                break;
            default:
                text.deleteCharAt(at);
        }
    }

    private String systemText() {
        int n = 1 + random.nextInt(4);
        int p = 1 + random.nextInt(3);
        int size = new int[] {1, 3, 16, 24, 99}[random.nextInt(5)];
        int zeros = random.nextInt(4);
        int kind = random.nextInt(3);
        StringBuilder s = new StringBuilder("N").append(n).append(p);
        s.append(twoDigits(random.nextInt(3) == 0 ? random.nextInt(100) : random.nextInt(10))).append(random.nextInt(10));
        int stateOfInput = random.nextInt(6);
        for (int i = 0; i < n; i++) {
            s.append('r');
            for (int j = 0; j < n; j++) {
                s.append(number(kind == 0 && i == j ? 14 + random.nextInt(5) : factor(size, zeros)));
            }
            s.append(number(factor(9, 1)));
            s.append(number(stateOfInput == 4 ? 0 : stateOfInput == i ? 1 : factor(stateOfInput > i ? 3 : 12, 2)));
        }
        for (int k = 0; k < p; k++) {
            s.append('o');
            for (int j = 0; j < n; j++) {
                s.append(number(factor(random.nextBoolean() ? 2 : size, zeros)));
            }
            s.append(twoDigits(1 + random.nextInt(random.nextBoolean() ? 4 : 99)));
        }
        int gains = random.nextInt(5);
        for (int g = 0; g < gains; g++) {
            s.append('g').append(random.nextInt(n)).append(random.nextInt(p)).append(number(factor(20, 0)));
        }
        return s.toString();
    }

    private int factor(int size, int zeros) {
        return random.nextInt(4) < zeros ? 0 : random.nextInt(2 * size + 1) - size;
    }

    private static String number(int v) {
        return (v < 0 ? "-" : "+") + twoDigits(Math.abs(v));
    }

    private static String twoDigits(int v) {
        return (v < 10 ? "0" : "") + v;
    }

    // ---- calls

    private int aState() {
        return random.nextInt(30) == 0 ? wild() : random.nextInt(states);
    }

    private int anOutput() {
        return random.nextInt(30) == 0 ? wild() : random.nextInt(outputs);
    }

    private int wild() {
        int[] edges = {-1, 0, 1, 2, 3, 4, 5, 8, 9, 10, -99, 99, 100, -100, 101, 61, 256, Integer.MAX_VALUE, Integer.MIN_VALUE};
        return edges[random.nextInt(edges.length)];
    }

    private int within(int least, int greatest) {
        if (random.nextInt(30) == 0) {
            return wild();
        }
        switch (random.nextInt(16)) {
            case 0:
                return least;
            case 1:
                return greatest;
            case 2:
                return random.nextInt(2) == 0 ? least - 1 : greatest + 1;
            default:
                return least + random.nextInt(greatest - least + 1);
        }
    }

    private int inInterval(int i) {
        if (i < 0 || i >= states) {
            return within(-1000, 1000);
        }
        if (random.nextInt(3) == 0) {
            return (int) r.state(i, 0) + random.nextInt(5) - 2;
        }
        return within((int) r.state(i, 1), (int) r.state(i, 2));
    }

    private void action() {
        int i = aState();
        int k = anOutput();
        boolean flag = random.nextBoolean();
        switch (random.nextInt(16)) {
            case 0: case 1: {
                int v = inInterval(i);
                check("place(" + i + ", " + v + ")", (x, r, ref) -> ref ? r.place(i, v) : x.place(i, v));
                break;
            }
            case 2: case 3: case 4: {
                int u = within(-99, 99);
                int d = within(-(int) r.about(2), (int) r.about(2));
                check("step(" + u + ", " + d + ")", (x, r, ref) -> ref ? r.step(u, d) : x.step(u, d));
                break;
            }
            case 5: case 6: case 7: case 8:
                check("read(" + k + ")", (x, r, ref) -> ref ? r.read(k) : x.read(k));
                break;
            case 9: {
                int m = within(1, 100);
                check("shave(" + i + ", " + m + ")", (x, r, ref) -> ref ? r.shave(i, m) : x.shave(i, m));
                break;
            }
            case 10: {
                int v = within(-99, 99);
                check("setGain(" + i + ", " + k + ", " + v + ")", (x, r, ref) -> ref ? r.setGain(i, k, v) : x.setGain(i, k, v));
                break;
            }
            case 11: {
                int v = within(0, 9);
                check("setHold(" + v + ")", (x, r, ref) -> ref ? r.setHold(v) : x.setHold(v));
                break;
            }
            case 12: {
                int v = flag ? within(0, 99) : within(0, 9);
                check("setBound(" + v + ")", (x, r, ref) -> ref ? r.setBound(v) : x.setBound(v));
                break;
            }
            case 13: {
                int times = random.nextInt(4) == 0 ? 16 : 2;
                for (int t = 0; t < times; t++) {
                    check("undo()", (x, r, ref) -> ref ? r.undo() : x.undo());
                }
                break;
            }
            case 14: {
                int slot = within(0, 1);
                check("save(" + slot + ")", (x, r, ref) -> ref ? r.save(slot) : x.save(slot));
                break;
            }
            default: {
                int slot = within(0, 1);
                if (random.nextInt(3) == 0) {
                    check("restore(" + slot + ")", (x, r, ref) -> ref ? r.restore(slot) : x.restore(slot));
                }
            }
        }
        look();
    }

    /** Looks at a good part of the state, so that a wrong one does not stay hidden for long. */
    private void look() {
        for (int i = 0; i < states; i++) {
            int who = i;
            int what = random.nextInt(5);
            check("state(" + who + ", " + what + ")", (x, r, ref) -> ref ? r.state(who, what) : x.state(who, what));
        }
        check("width()", (x, r, ref) -> ref ? r.width() : x.width());
    }

    private void question() {
        int i = aState();
        int k = anOutput();
        int u = within(-99, 99);
        boolean flag = random.nextBoolean();
        switch (random.nextInt(18)) {
            case 0: {
                int what = within(0, 4);
                check("about(" + what + ")", (x, r, ref) -> ref ? r.about(what) : x.about(what));
                break;
            }
            case 1: {
                int what = within(0, 5);
                int j = flag ? aState() : anOutput();
                int row = random.nextBoolean() ? i : k;
                check("coefficient(" + what + ", " + row + ", " + j + ")", (x, r, ref) -> ref ? r.coefficient(what, row, j) : x.coefficient(what, row, j));
                break;
            }
            case 2: {
                int what = within(0, 4);
                check("state(" + i + ", " + what + ")", (x, r, ref) -> ref ? r.state(i, what) : x.state(i, what));
                break;
            }
            case 3: case 4: {
                int what = within(0, 3);
                check("output(" + k + ", " + what + ")", (x, r, ref) -> ref ? r.output(k, what) : x.output(k, what));
                break;
            }
            case 5: {
                int[] v = new int[4];
                for (int t = 0; t < 4; t++) {
                    v[t] = t < states ? inInterval(t) : random.nextInt(30) == 0 ? wild() : 0;
                }
                check("canBe(" + v[0] + ", " + v[1] + ", " + v[2] + ", " + v[3] + ")",
                    (x, r, ref) -> ref ? r.canBe(v[0], v[1], v[2], v[3]) : x.canBe(v[0], v[1], v[2], v[3]) ? 1 : 0);
                break;
            }
            case 6: case 7: {
                int y = k >= 0 && k < outputs && random.nextInt(8) != 0
                    ? within((int) r.output(k, 2), (int) r.output(k, 3)) : within(-1000000, 1000000);
                check("widthIf(" + k + ", " + y + ")", (x, r, ref) -> ref ? r.widthIf(k, y) : x.widthIf(k, y));
                break;
            }
            case 8: {
                int steps = flag ? within(0, 60) : within(0, 5);
                boolean upper = random.nextBoolean();
                check("ahead(" + steps + ", " + u + ", " + i + ", " + upper + ")",
                    (x, r, ref) -> ref ? r.ahead(steps, u, i, upper) : x.ahead(steps, u, i, upper));
                break;
            }
            case 9: {
                int v = random.nextInt(6000) - 2000;
                check("earliest(" + i + ", " + v + ", " + u + ", " + flag + ")",
                    (x, r, ref) -> ref ? r.earliest(i, v, u, flag) : x.earliest(i, v, u, flag));
                break;
            }
            case 10: case 11:
                check("unknown(" + flag + ")", (x, r, ref) -> ref ? r.unknown(flag) : x.unknown(flag));
                break;
            case 12: {
                int power = within(1, 8);
                check("rankAfter(" + power + ")", (x, r, ref) -> ref ? r.rankAfter(power) : x.rankAfter(power));
                check("observabilityIndex()", (x, r, ref) -> ref ? r.observabilityIndex() : x.observabilityIndex());
                break;
            }
            case 13: {
                int power = within(0, 8);
                check("hiddenDimension(" + power + ")", (x, r, ref) -> ref ? r.hiddenDimension(power) : x.hiddenDimension(power));
                check("touched()", (x, r, ref) -> ref ? r.touched() : x.touched());
                break;
            }
            case 14: {
                int q = aState();
                check("free(" + q + ", " + i + ")", (x, r, ref) -> ref ? r.free(q, i) : x.free(q, i));
                check("freeRange(" + q + ", " + flag + ")", (x, r, ref) -> ref ? r.freeRange(q, flag) : x.freeRange(q, flag));
                break;
            }
            case 15: case 16: {
                int count = within(1, 4);
                long script = script();
                check("runScript(" + count + ", " + script + "L)", (x, r, ref) -> ref ? r.runScript(count, script) : x.runScript(count, script));
                break;
            }
            default: {
                long seed = random.nextLong();
                int rounds = within(1, flag ? 100 : 9);
                check("simulate(" + seed + "L, " + rounds + ")", (x, r, ref) -> ref ? r.simulate(seed, rounds) : x.simulate(seed, rounds));
            }
        }
    }

    private long script() {
        if (random.nextInt(20) == 0) {
            return random.nextBoolean() ? -1 : random.nextLong();
        }
        long script = 0;
        int groups = 1 + random.nextInt(4);
        for (int t = 0; t < groups; t++) {
            int kind = 1 + random.nextInt(7);
            int group = random.nextInt(8) == 0 ? random.nextInt(10000)
                : kind <= 2 ? 1000 * kind + 10 * random.nextInt(100) + random.nextInt(4)
                : kind == 3 ? 3000 + random.nextInt(outputs)
                : kind == 6 ? 6000 + 100 * random.nextInt(outputs) + random.nextInt(3)
                : 1000 * kind + 100 * random.nextInt(states) + random.nextInt(100);
            script = script * 10000 + group;
        }
        return script;
    }

    private void check(String call, Call body) {
        if (wrong || calls >= CALLS + 2) {
            return;
        }
        calls++;
        String want = answer(body, true);
        String got = answer(body, false);
        story.append(call).append(" = ").append(got).append('\n');
        if (!got.equals(want)) {
            story.append("due is ").append(want).append('\n');
            wrong = true;
        }
    }

    private String answer(Call body, boolean onReference) {
        try {
            return Long.toString(body.on(x, r, onReference));
        } catch (RuntimeException e) {
            return e.getClass().getName();
        }
    }
}
