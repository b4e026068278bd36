/**
 * A state observer for linear systems in fixed point whose outputs are quantized, of which samples can be
 * missing, and which have an input that nobody knows. The document DOC.md says what each method promises.
 *
 * All rows are made in the constructor and used again, so that no call but the constructor makes an object
 * (except the exception that it throws).
 */
public final class StateObserver {
    public static final int NONE = -9;

    private static final int STATES = 4;
    private static final int OUTPUTS = 3;
    private static final int SLOTS = 2;
    private static final int REMEMBERED = 14;
    private static final int TEXT_ROOM = 200;
    private static final int LARGEST_CODE = 255;
    private static final int FIRST_BOUND = 1000;
    private static final int LARGEST_VALUE = 1000000;
    private static final int LARGEST_ESTIMATE = 16000000;
    private static final int LARGEST_FACTOR = 99;
    private static final int LARGEST_HOLD = 9;
    private static final int LARGEST_READING = 1000000;
    private static final int SCALE = 16;
    private static final int PASSES = 100;
    private static final int FARTHEST = 60;
    private static final int LARGEST_SHAVE = 100;
    private static final int LARGEST_POWER = 8;
    private static final int COMMANDS = 4;
    private static final int COMMAND_BASE = 10000;
    private static final long FIRST_COMMAND = 1000000000000L;
    private static final int ROUNDS = 100;
    private static final long PRIME = 1000003L;
    private static final int NEVER = -1;
    private static final int NO_STATE = -1;

    // outcomes of tightening, the worst one last
    private static final int UNCHANGED = 0;
    private static final int CHANGED = 1;
    private static final int EMPTY = 2;

    private final Plant plant = new Plant();
    private final Moment now = new Moment();
    private final Moment copy = new Moment();
    private final History history = new History();
    private final Slots slots = new Slots();
    private final SystemText text = new SystemText();
    private final Motion motion = new Motion();
    private final Ranks ranks = new Ranks();
    private final int[] row = new int[STATES];

    public StateObserver() {
    }

    // ---- text

    public int append(int c) throws IllegalArgumentException, IllegalStateException {
        if (c < 0 || c > LARGEST_CODE) {
            throw new IllegalArgumentException("no such character");
        }
        if (text.length >= TEXT_ROOM) {
            throw new IllegalStateException("the text is full");
        }
        text.put((char) c);
        return text.length;
    }

    public int clearText() {
        int before = text.length;
        text.length = 0;
        return before;
    }

    public int errorPosition() {
        return text.firstError();
    }

    public int load() throws IllegalStateException {
        if (text.firstError() != NONE) {
            throw new IllegalStateException("not a system text");
        }
        plant.copyFrom(text.plant);
        now.copyFrom(text.start);
        history.forget();
        slots.forget();
        return plant.n;
    }

    // ---- the system

    public int about(int what) throws IllegalArgumentException {
        switch (what) {
            case 0:
                return plant.n;
            case 1:
                return plant.p;
            case 2:
                return now.bound;
            case 3:
                return now.hold;
            case 4:
                return now.time;
            default:
                throw new IllegalArgumentException("no such number of the system");
        }
    }

    public int coefficient(int what, int i, int j) throws IndexOutOfBoundsException, IllegalArgumentException {
        if (what < 0 || what > 5) {
            throw new IllegalArgumentException("no such matrix or vector");
        }
        boolean rowsAreOutputs = what == 3 || what == 4;
        if (rowsAreOutputs ? !isOutput(i) : !isState(i)) {
            throw new IndexOutOfBoundsException("no such row");
        }
        if (j < 0 || j >= columnsOf(what)) {
            throw new IndexOutOfBoundsException("no such column");
        }
        switch (what) {
            case 0:
                return plant.a[i][j];
            case 1:
                return plant.b[i];
            case 2:
                return plant.e[i];
            case 3:
                return plant.c[i][j];
            case 4:
                return plant.quantum[i];
            default:
                return now.gain[i][j];
        }
    }

    public int state(int i, int what) throws IndexOutOfBoundsException, IllegalArgumentException {
        if (!isState(i)) {
            throw new IndexOutOfBoundsException("no such state");
        }
        switch (what) {
            case 0:
                return now.truth[i];
            case 1:
                return now.lower[i];
            case 2:
                return now.upper[i];
            case 3:
                return now.estimate[i];
            case 4:
                return Math.max(SCALE * now.lower[i], Math.min(SCALE * now.upper[i], now.estimate[i]));
            default:
                throw new IllegalArgumentException("no such number of a state");
        }
    }

    public int output(int k, int what)
            throws IndexOutOfBoundsException, IllegalArgumentException, IllegalStateException {
        if (!isOutput(k)) {
            throw new IndexOutOfBoundsException("no such output");
        }
        if (what < 0 || what > 3) {
            throw new IllegalArgumentException("no such number of an output");
        }
        if (what <= 1 && now.age[k] == NEVER) {
            throw new IllegalStateException("the output was never read");
        }
        switch (what) {
            case 0:
                return now.reading[k];
            case 1:
                return now.age[k];
            default:
                return plant.quantized(k, plant.extreme(plant.c[k], now, NO_STATE, what == 3));
        }
    }

    public int width() {
        return plant.widthOf(now);
    }

    // ---- actions

    public int place(int i, int v) throws IndexOutOfBoundsException, IllegalStateException {
        if (!isState(i)) {
            throw new IndexOutOfBoundsException("no such state");
        }
        copyRow(now.truth, row);
        row[i] = v;
        if (v < now.lower[i] || v > now.upper[i] || !plant.meetFreshOutputs(row, now)) {
            throw new IllegalStateException("the state cannot have this value");
        }
        history.remember(now);
        int before = now.truth[i];
        now.truth[i] = v;
        return before;
    }

    public int step(int u, int d) throws IllegalArgumentException {
        if (!isFactor(u) || d < -now.bound || d > now.bound) {
            throw new IllegalArgumentException("an input is out of its range");
        }
        history.remember(now);
        motion.advance(plant, now, u, d);
        return now.time;
    }

    public int read(int k) throws IndexOutOfBoundsException {
        if (!isOutput(k)) {
            throw new IndexOutOfBoundsException("no such output");
        }
        history.remember(now);
        motion.observe(plant, now, k);
        return now.reading[k];
    }

    public int shave(int i, int m) throws IndexOutOfBoundsException, IllegalArgumentException {
        if (!isState(i)) {
            throw new IndexOutOfBoundsException("no such state");
        }
        if (m < 1 || m > LARGEST_SHAVE) {
            throw new IllegalArgumentException("no such number of values");
        }
        history.remember(now);
        int cut = 0;
        for (int t = 0; t < m && cannotHave(i, now.lower[i]); t++) {
            now.lower[i]++;
            cut++;
        }
        for (int t = 0; t < m && cannotHave(i, now.upper[i]); t++) {
            now.upper[i]--;
            cut++;
        }
        return cut;
    }

    public int setGain(int i, int k, int v) throws IndexOutOfBoundsException, IllegalArgumentException {
        if (!isState(i) || !isOutput(k)) {
            throw new IndexOutOfBoundsException("no such state or output");
        }
        if (!isFactor(v)) {
            throw new IllegalArgumentException("no such gain");
        }
        history.remember(now);
        int before = now.gain[i][k];
        now.gain[i][k] = v;
        return before;
    }

    public int setHold(int v) throws IllegalArgumentException {
        if (v < 0 || v > LARGEST_HOLD) {
            throw new IllegalArgumentException("no such hold");
        }
        history.remember(now);
        int before = now.hold;
        now.hold = v;
        return before;
    }

    public int setBound(int v) throws IllegalArgumentException {
        if (v < 0 || v > LARGEST_FACTOR) {
            throw new IllegalArgumentException("no such bound");
        }
        history.remember(now);
        int before = now.bound;
        now.bound = v;
        return before;
    }

    public int undo() throws IllegalStateException {
        if (history.count == 0) {
            throw new IllegalStateException("no state is remembered");
        }
        history.takeBack(now);
        return history.count;
    }

    // ---- questions; they change nothing

    public boolean canBe(int a, int b, int c, int d) throws IllegalArgumentException {
        row[0] = a;
        row[1] = b;
        row[2] = c;
        row[3] = d;
        for (int i = plant.n; i < STATES; i++) {
            if (row[i] != 0) {
                throw new IllegalArgumentException("a value for a state that does not exist");
            }
        }
        for (int i = 0; i < plant.n; i++) {
            if (row[i] < now.lower[i] || row[i] > now.upper[i]) {
                return false;
            }
        }
        return plant.meetFreshOutputs(row, now);
    }

    public int widthIf(int k, int y) throws IndexOutOfBoundsException, IllegalArgumentException {
        if (!isOutput(k)) {
            throw new IndexOutOfBoundsException("no such output");
        }
        if (y < -LARGEST_READING || y > LARGEST_READING) {
            throw new IllegalArgumentException("no such reading");
        }
        copy.copyFrom(now);
        copy.reading[k] = y;
        copy.age[k] = 0;
        return motion.tighten(plant, copy) ? plant.widthOf(copy) : NONE;
    }

    public int ahead(int steps, int u, int i, boolean upper)
            throws IndexOutOfBoundsException, IllegalArgumentException {
        if (!isState(i)) {
            throw new IndexOutOfBoundsException("no such state");
        }
        if (steps < 0 || steps > FARTHEST || !isFactor(u)) {
            throw new IllegalArgumentException("steps or input out of range");
        }
        copy.copyFrom(now);
        for (int t = 0; t < steps; t++) {
            motion.advance(plant, copy, u, 0);
        }
        return upper ? copy.upper[i] : copy.lower[i];
    }

    public int earliest(int i, int v, int u, boolean surely)
            throws IndexOutOfBoundsException, IllegalArgumentException {
        if (!isState(i)) {
            throw new IndexOutOfBoundsException("no such state");
        }
        if (!isFactor(u)) {
            throw new IllegalArgumentException("the input is out of its range");
        }
        copy.copyFrom(now);
        for (int steps = 0; steps <= FARTHEST; steps++) {
            int reached = surely ? copy.lower[i] : copy.upper[i];
            if (reached >= v) {
                return steps;
            }
            motion.advance(plant, copy, u, 0);
        }
        return NONE;
    }

    public int unknown(boolean upper) throws IllegalStateException {
        if (now.time == 0) {
            throw new IllegalStateException("there was no step");
        }
        for (int d = now.lastBound; d >= -now.lastBound; d--) {
            int candidate = upper ? d : -d;
            if (plant.explains(candidate, now)) {
                return candidate;
            }
        }
        throw new IllegalStateException("no unknown input fits the intervals");
    }

    public int rankAfter(int k) throws IllegalArgumentException {
        if (k < 1 || k > LARGEST_POWER) {
            throw new IllegalArgumentException("no such rank");
        }
        return ranks.ofPowers(plant, k);
    }

    public int observabilityIndex() {
        for (int k = 1; k <= plant.n; k++) {
            if (ranks.ofPowers(plant, k) == plant.n) {
                return k;
            }
        }
        return NONE;
    }

    public int hiddenDimension(int k) throws IllegalArgumentException {
        if (k < 0 || k > LARGEST_POWER) {
            throw new IllegalArgumentException("no such hidden dimension");
        }
        return plant.n - ranks.ofVisible(plant, k);
    }

    public int touched() {
        int set = 0;
        for (int k = 0; k < plant.p; k++) {
            if (plant.sum(plant.c[k], plant.e) != 0) {
                set |= 1 << k;
            }
        }
        return set;
    }

    public int free(int q, int j) throws IndexOutOfBoundsException {
        if (!isState(j) || q < 0 || q >= plant.combinations()) {
            throw new IndexOutOfBoundsException("no such combination or state");
        }
        plant.putCombination(q, row);
        return row[j];
    }

    public int freeRange(int q, boolean upper) throws IndexOutOfBoundsException {
        if (q < 0 || q >= plant.combinations()) {
            throw new IndexOutOfBoundsException("no such combination");
        }
        plant.putCombination(q, row);
        return (int) plant.extreme(row, now, NO_STATE, upper);
    }

    // ---- scripts, simulations

    public int runScript(int n, long script) throws IllegalArgumentException {
        if (n < 1 || n > COMMANDS) {
            throw new IllegalArgumentException("no such number of commands");
        }
        long end = 1;
        for (int t = 0; t < n; t++) {
            end *= COMMAND_BASE;
        }
        if (script < 0 || script >= end) {
            throw new IllegalArgumentException("the script has too many digits");
        }
        long rest = script;
        for (int t = n; t < COMMANDS; t++) {
            rest *= COMMAND_BASE;
        }
        copy.copyFrom(now);
        for (int t = 0; t < n; t++) {
            if (!succeeds((int) (rest / FIRST_COMMAND))) {
                return t;
            }
            rest = rest % FIRST_COMMAND * COMMAND_BASE;
        }
        return NONE;
    }

    public long simulate(long seed, int m) throws IllegalArgumentException {
        if (m < 1 || m > ROUNDS) {
            throw new IllegalArgumentException("no such number of rounds");
        }
        copy.copyFrom(now);
        long x = seed;
        long sum = 0;
        for (int t = 0; t < m; t++) {
            x = x * 6364136223846793005L + 1442695040888963407L;
            int r = (int) (x >>> 33);
            int d = remainder(r / 32, 2 * copy.bound + 1) - copy.bound;
            motion.advance(plant, copy, r % 21 - 10, d);
            if (r / 8192 % 4 != 0) {
                motion.observe(plant, copy, remainder(r / 32768, plant.p));
            }
            sum += plant.widthOf(copy);
        }
        return sum;
    }

    // ---- save slots

    public int save(int slot) throws IndexOutOfBoundsException {
        if (slot < 0 || slot >= SLOTS) {
            throw new IndexOutOfBoundsException("no such slot");
        }
        slots.moments[slot].copyFrom(now);
        slots.filled[slot] = true;
        return now.time;
    }

    public int restore(int slot) throws IndexOutOfBoundsException, IllegalStateException {
        if (slot < 0 || slot >= SLOTS) {
            throw new IndexOutOfBoundsException("no such slot");
        }
        if (!slots.filled[slot]) {
            throw new IllegalStateException("the slot is empty");
        }
        now.copyFrom(slots.moments[slot]);
        history.forget();
        return now.time;
    }

    // ---- tests of arguments

    private boolean isState(int i) {
        return i >= 0 && i < plant.n;
    }

    private boolean isOutput(int k) {
        return k >= 0 && k < plant.p;
    }

    private static boolean isFactor(int v) {
        return v >= -LARGEST_FACTOR && v <= LARGEST_FACTOR;
    }

    private int columnsOf(int what) {
        if (what == 0 || what == 3) {
            return plant.n;
        }
        return what == 5 ? plant.p : 1;
    }

    // ---- parts of longer calls

    private boolean cannotHave(int i, int v) {
        copy.copyFrom(now);
        copy.lower[i] = v;
        copy.upper[i] = v;
        return !motion.tighten(plant, copy);
    }

    /** Runs a command of a script on the copy. */
    private boolean succeeds(int command) {
        int who = command / 100 % 10;
        int most = command % 100;
        switch (command / 1000) {
            case 1:
                return advancesCopy(command / 10 % 100, command % 10, 1);
            case 2:
                return advancesCopy(command / 10 % 100, command % 10, -1);
            case 3:
                if (who != 0 || !isOutput(most)) {
                    return false;
                }
                motion.observe(plant, copy, most);
                return true;
            case 4:
                return isState(who) && copy.upper[who] - copy.lower[who] <= most;
            case 5:
                return isState(who) && copy.lower[who] >= most;
            case 6:
                // an age that is 0 to 9 is never the mark of an output that was never read
                return most < 10 && isOutput(who) && copy.age[who] == most;
            case 7:
                return isState(who) && copy.truth[who] <= most;
            default:
                return false;
        }
    }

    private boolean advancesCopy(int u, int d, int sign) {
        if (d > copy.bound) {
            return false;
        }
        motion.advance(plant, copy, sign * u, sign * d);
        return true;
    }

    // ---- arithmetic

    private static long floorQuotient(long value, long divisor) {
        return divisor == 0 ? 0 : Math.floorDiv(value, divisor);
    }

    private static int quotient(int value, int divisor) {
        return divisor == 0 ? 0 : value / divisor;
    }

    private static int remainder(int value, int divisor) {
        return divisor == 0 ? 0 : value % divisor;
    }

    private static int limited(long value, int most) {
        return (int) Math.max(-most, Math.min(most, value));
    }

    /** The greatest common divisor of two numbers of which one is not 0 and none is beyond LARGEST_FACTOR. */
    private static int commonDivisor(int x, int y) {
        for (int g = LARGEST_FACTOR; g > 1; g--) {
            if (x % g == 0 && y % g == 0) {
                return g;
            }
        }
        return 1;
    }

    /** Takes a multiple of the other row off a multiple of the vector so that lead becomes 0; otherLead is not 0. */
    private static void removeLead(long[] vector, long lead, long[] other, long otherLead, int n) {
        for (int j = 0; j < n; j++) {
            vector[j] = Math.floorMod(vector[j] * otherLead - other[j] * lead, PRIME);
        }
    }

    private static void copyRow(int[] from, int[] to) {
        System.arraycopy(from, 0, to, 0, Math.min(from.length, to.length));
    }

    private static void copyRow(long[] from, long[] to) {
        System.arraycopy(from, 0, to, 0, Math.min(from.length, to.length));
    }

    private static void copyRows(int[][] from, int[][] to) {
        for (int i = 0; i < from.length && i < to.length; i++) {
            copyRow(from[i], to[i]);
        }
    }

    /** The matrices, vectors and quanta. Only the first n states and the first p outputs of each row are used. */
    private static final class Plant {
        int n = 1;
        int p = 1;
        final int[][] a = new int[STATES][STATES];
        final int[] b = new int[STATES];
        final int[] e = new int[STATES];
        final int[][] c = new int[OUTPUTS][STATES];
        final int[] quantum = new int[OUTPUTS];

        Plant() {
            a[0][0] = 16;
            b[0] = 1;
            c[0][0] = 1;
            quantum[0] = 1;
        }

        void copyFrom(Plant other) {
            n = other.n;
            p = other.p;
            copyRows(other.a, a);
            copyRow(other.b, b);
            copyRow(other.e, e);
            copyRows(other.c, c);
            copyRow(other.quantum, quantum);
        }

        long sum(int[] factors, int[] values) {
            long sum = 0;
            for (int j = 0; j < n; j++) {
                sum += (long) factors[j] * values[j];
            }
            return sum;
        }

        /** The least or the greatest value of a combination over the intervals, without the state that is left out. */
        long extreme(int[] factors, Moment m, int leftOut, boolean greatest) {
            long sum = 0;
            for (int j = 0; j < n; j++) {
                if (j != leftOut) {
                    boolean atUpper = factors[j] > 0 == greatest;
                    sum += (long) factors[j] * (atUpper ? m.upper[j] : m.lower[j]);
                }
            }
            return sum;
        }

        int quantized(int k, long sum) {
            return (int) floorQuotient(sum, quantum[k]);
        }

        int widthOf(Moment m) {
            int sum = 0;
            for (int i = 0; i < n; i++) {
                sum += m.upper[i] - m.lower[i];
            }
            return sum;
        }

        boolean meetFreshOutputs(int[] values, Moment m) {
            for (int k = 0; k < p; k++) {
                if (m.age[k] == 0 && floorQuotient(sum(c[k], values), quantum[k]) != m.reading[k]) {
                    return false;
                }
            }
            return true;
        }

        /** Whether the unknown input d in the last step fits the present intervals. */
        boolean explains(int d, Moment m) {
            for (int i = 0; i < n; i++) {
                int effect = e[i] * d;
                int known = b[i] * m.lastInput;
                boolean tooSmall = m.lower[i] > -LARGEST_VALUE && effect < m.lower[i] - known - m.lastHigh[i];
                boolean tooGreat = m.upper[i] < LARGEST_VALUE && effect > m.upper[i] - known - m.lastLow[i];
                if (e[i] != 0 && (tooSmall || tooGreat)) {
                    return false;
                }
            }
            return true;
        }

        /** The first state on which the unknown input acts. */
        int firstActedOn() {
            for (int i = 0; i < n; i++) {
                if (e[i] != 0) {
                    return i;
                }
            }
            return NO_STATE;
        }

        /** How many combinations there are on which the unknown input does not act. */
        int combinations() {
            return firstActedOn() == NO_STATE ? n : n - 1;
        }

        void putCombination(int q, int[] factors) {
            int t = firstActedOn();
            for (int j = 0; j < STATES; j++) {
                factors[j] = 0;
            }
            if (t == NO_STATE) {
                factors[q] = 1;
                return;
            }
            int s = q < t ? q : q + 1;
            int g = commonDivisor(e[s], e[t]);
            factors[s] = quotient(Math.abs(e[t]), g);
            factors[t] = quotient(e[t] > 0 ? -e[s] : e[s], g);
        }
    }

    /** A state of the object: all that actions change. A new one is as at first. */
    private static final class Moment {
        final int[] truth = new int[STATES];
        final int[] lower = new int[STATES];
        final int[] upper = new int[STATES];
        final int[] estimate = new int[STATES];
        final int[][] gain = new int[STATES][OUTPUTS];
        final int[] reading = new int[OUTPUTS];
        final int[] age = new int[OUTPUTS];
        int hold;
        int bound;
        int time;
        // what unknown() needs of the last step: the input, the bound, and floor(low / 16) and floor(high / 16)
        int lastInput;
        int lastBound;
        final int[] lastLow = new int[STATES];
        final int[] lastHigh = new int[STATES];

        Moment() {
            for (int i = 0; i < STATES; i++) {
                lower[i] = -FIRST_BOUND;
                upper[i] = FIRST_BOUND;
            }
            for (int k = 0; k < OUTPUTS; k++) {
                age[k] = NEVER;
            }
        }

        void copyFrom(Moment other) {
            copyRow(other.truth, truth);
            copyRow(other.lower, lower);
            copyRow(other.upper, upper);
            copyRow(other.estimate, estimate);
            copyRows(other.gain, gain);
            copyRow(other.reading, reading);
            copyRow(other.age, age);
            hold = other.hold;
            bound = other.bound;
            time = other.time;
            lastInput = other.lastInput;
            lastBound = other.lastBound;
            copyRow(other.lastLow, lastLow);
            copyRow(other.lastHigh, lastHigh);
        }

        void clearGains() {
            for (int i = 0; i < STATES; i++) {
                for (int k = 0; k < OUTPUTS; k++) {
                    gain[i][k] = 0;
                }
            }
        }
    }

    /** The states before the last actions, in a ring. */
    private static final class History {
        final Moment[] moments = new Moment[REMEMBERED];
        int next;
        int count;

        History() {
            for (int i = 0; i < REMEMBERED; i++) {
                moments[i] = new Moment();
            }
        }

        void remember(Moment m) {
            moments[next].copyFrom(m);
            next = (next + 1) % REMEMBERED;
            count = Math.min(count + 1, REMEMBERED);
        }

        void takeBack(Moment m) {
            next = (next + REMEMBERED - 1) % REMEMBERED;
            count--;
            m.copyFrom(moments[next]);
        }

        void forget() {
            count = 0;
        }
    }

    private static final class Slots {
        final Moment[] moments = new Moment[SLOTS];
        final boolean[] filled = new boolean[SLOTS];

        Slots() {
            for (int i = 0; i < SLOTS; i++) {
                moments[i] = new Moment();
            }
        }

        void forget() {
            for (int i = 0; i < SLOTS; i++) {
                filled[i] = false;
            }
        }
    }

    /** Steps and readings: how a moment becomes the next one. */
    private static final class Motion {
        final int[] nextValue = new int[STATES];
        final long[] deviation = new long[OUTPUTS];

        void advance(Plant plant, Moment m, int u, int d) {
            advanceEstimates(plant, m, u);
            advanceTruth(plant, m, u, d);
            advanceIntervals(plant, m, u);
            for (int k = 0; k < plant.p; k++) {
                if (m.age[k] != NEVER) {
                    m.age[k]++;
                }
            }
            m.lastInput = u;
            m.lastBound = m.bound;
            m.time++;
        }

        private void advanceTruth(Plant plant, Moment m, int u, int d) {
            for (int i = 0; i < plant.n; i++) {
                long moved = floorQuotient(plant.sum(plant.a[i], m.truth), SCALE);
                nextValue[i] = limited(moved + plant.b[i] * u + plant.e[i] * d, LARGEST_VALUE);
            }
            copyRow(nextValue, m.truth);
        }

        private void advanceIntervals(Plant plant, Moment m, int u) {
            // all sums come first, for each of them needs all bounds before the step
            for (int i = 0; i < plant.n; i++) {
                m.lastLow[i] = (int) floorQuotient(plant.extreme(plant.a[i], m, NO_STATE, false), SCALE);
                m.lastHigh[i] = (int) floorQuotient(plant.extreme(plant.a[i], m, NO_STATE, true), SCALE);
            }
            for (int i = 0; i < plant.n; i++) {
                int known = plant.b[i] * u;
                int doubt = Math.abs(plant.e[i]) * m.bound;
                m.lower[i] = limited(m.lastLow[i] + known - doubt, LARGEST_VALUE);
                m.upper[i] = limited(m.lastHigh[i] + known + doubt, LARGEST_VALUE);
            }
        }

        private void advanceEstimates(Plant plant, Moment m, int u) {
            for (int k = 0; k < plant.p; k++) {
                deviation[k] = deviationOf(plant, m, k);
            }
            for (int i = 0; i < plant.n; i++) {
                long moved = floorQuotient(plant.sum(plant.a[i], m.estimate), SCALE);
                long corrected = 0;
                for (int k = 0; k < plant.p; k++) {
                    corrected += m.gain[i][k] * deviation[k];
                }
                long sum = moved + SCALE * plant.b[i] * u + floorQuotient(corrected, SCALE);
                nextValue[i] = limited(sum, LARGEST_ESTIMATE);
            }
            copyRow(nextValue, m.estimate);
        }

        /** How far the middle of the last reading is from what the estimates let expect, in sixteenths. */
        private long deviationOf(Plant plant, Moment m, int k) {
            if (m.age[k] == NEVER || m.age[k] > m.hold) {
                return 0;
            }
            long q = plant.quantum[k];
            return SCALE * q * m.reading[k] + SCALE / 2 * (q - 1) - plant.sum(plant.c[k], m.estimate);
        }

        void observe(Plant plant, Moment m, int k) {
            m.reading[k] = plant.quantized(k, plant.sum(plant.c[k], m.truth));
            m.age[k] = 0;
            tighten(plant, m);
        }

        /** Returns whether it succeeds; if it fails, the intervals are left as they are at that moment. */
        boolean tighten(Plant plant, Moment m) {
            for (int pass = 0; pass < PASSES; pass++) {
                int outcome = makePass(plant, m);
                if (outcome != CHANGED) {
                    return outcome == UNCHANGED;
                }
            }
            return true;
        }

        private int makePass(Plant plant, Moment m) {
            int outcome = UNCHANGED;
            for (int k = 0; k < plant.p; k++) {
                for (int j = 0; j < plant.n && m.age[k] == 0; j++) {
                    outcome = Math.max(outcome, cutDown(plant, m, k, j));
                    if (outcome == EMPTY) {
                        return EMPTY;
                    }
                }
            }
            return outcome;
        }

        /** Cuts the interval of a state down to the values that the condition of an output allows. */
        private int cutDown(Plant plant, Moment m, int k, int j) {
            int[] factors = plant.c[k];
            long factor = factors[j];
            if (factor == 0) {
                return UNCHANGED;
            }
            long first = (long) plant.quantum[k] * m.reading[k];
            long last = first + plant.quantum[k] - 1;
            long leastProduct = first - plant.extreme(factors, m, j, true);
            long greatestProduct = last - plant.extreme(factors, m, j, false);
            // the first quotient is rounded up, the second one down
            long from = -Math.floorDiv(-(factor > 0 ? leastProduct : greatestProduct), factor);
            long to = Math.floorDiv(factor > 0 ? greatestProduct : leastProduct, factor);
            from = Math.max(from, m.lower[j]);
            to = Math.min(to, m.upper[j]);
            if (from > to) {
                return EMPTY;
            }
            if (from == m.lower[j] && to == m.upper[j]) {
                return UNCHANGED;
            }
            m.lower[j] = (int) from;
            m.upper[j] = (int) to;
            return CHANGED;
        }
    }

    /** The text buffer, and the reader that makes a plant and its first moment of it. */
    private static final class SystemText {
        final char[] characters = new char[TEXT_ROOM];
        int length;
        final Plant plant = new Plant();
        final Moment start = new Moment();
        private int position;
        private boolean wrong;

        void put(char c) {
            if (length < TEXT_ROOM) {
                characters[length] = c;
                length++;
            }
        }

        /** Returns the error position, or NONE; then the plant and its first moment are those of the text. */
        int firstError() {
            position = 0;
            wrong = false;
            takeHead();
            for (int i = 0; i < plant.n && !wrong; i++) {
                takeState(i);
            }
            for (int k = 0; k < plant.p && !wrong; k++) {
                takeOutput(k);
            }
            start.clearGains();
            for (int g = 0; g < TEXT_ROOM && !wrong && position < length; g++) {
                takeGain();
            }
            return wrong ? position : NONE;
        }

        private void takeHead() {
            takeCharacter('N', 'N');
            plant.n = takeDigit(1, STATES);
            plant.p = takeDigit(1, OUTPUTS);
            start.bound = takeTwoDigits(0);
            start.hold = takeDigit(0, LARGEST_HOLD);
        }

        private void takeState(int i) {
            takeCharacter('r', 'r');
            for (int j = 0; j < plant.n; j++) {
                plant.a[i][j] = takeNumber();
            }
            plant.b[i] = takeNumber();
            plant.e[i] = takeNumber();
        }

        private void takeOutput(int k) {
            takeCharacter('o', 'o');
            for (int j = 0; j < plant.n; j++) {
                plant.c[k][j] = takeNumber();
            }
            plant.quantum[k] = takeTwoDigits(1);
        }

        private void takeGain() {
            takeCharacter('g', 'g');
            int i = takeDigit(0, plant.n - 1);
            int k = takeDigit(0, plant.p - 1);
            start.gain[i][k] = takeNumber();
        }

        private int takeNumber() {
            boolean negative = position < length && characters[position] == '-';
            takeCharacter(negative ? '-' : '+', negative ? '-' : '+');
            int size = takeTwoDigits(0);
            return negative ? -size : size;
        }

        private int takeTwoDigits(int least) {
            int tens = takeDigit(0, 9);
            int units = takeDigit(tens == 0 ? least : 0, 9);
            return 10 * tens + units;
        }

        private int takeDigit(int least, int greatest) {
            return takeCharacter((char) ('0' + least), (char) ('0' + greatest)) ? characters[position - 1] - '0' : 0;
        }

        /** Goes on behind a character that is allowed; the first one that is not is never passed. */
        private boolean takeCharacter(char first, char last) {
            wrong = wrong || position >= length || characters[position] < first || characters[position] > last;
            if (!wrong) {
                position++;
            }
            return !wrong;
        }
    }

    /** Ranks of matrices of integers modulo PRIME. */
    private static final class Ranks {
        final Space space = new Space();
        final Space nextSpace = new Space();
        final long[][] block = new long[OUTPUTS][STATES];
        final long[] vector = new long[STATES];
        final long[] product = new long[STATES];
        final long[] effect = new long[STATES];

        /** The rank of the rows of C, C * A, and so on, k powers of A in all. */
        int ofPowers(Plant plant, int k) {
            space.clear();
            for (int o = 0; o < plant.p; o++) {
                putOutput(plant, o, block[o]);
            }
            for (int power = 0; power < k; power++) {
                for (int o = 0; o < plant.p; o++) {
                    copyRow(block[o], vector);
                    space.include(vector, plant.n);
                    multiply(plant, block[o]);
                }
            }
            return space.rank;
        }

        /**
         * n minus the hidden dimension k: instead of the space V(k) that cannot be seen, the space of the rows
         * w with w * x = 0 for all x of V(k) is built. A * x is the sum of a vector of V(k) and a multiple of e
         * just if w * A * x = 0 for all those rows w of it for which w * e = 0.
         */
        int ofVisible(Plant plant, int k) {
            space.clear();
            for (int round = 0; round < k; round++) {
                nextSpace.clear();
                for (int o = 0; o < plant.p; o++) {
                    putOutput(plant, o, vector);
                    nextSpace.include(vector, plant.n);
                }
                includeEarlier(plant);
                space.copyFrom(nextSpace);
            }
            return space.rank;
        }

        private void includeEarlier(Plant plant) {
            int chosen = putEffects(plant);
            for (int r = 0; r < plant.n; r++) {
                if (r != chosen) {
                    copyRow(space.rows[r], vector);
                    if (chosen < plant.n) {
                        removeLead(vector, effect[r], space.rows[chosen], effect[chosen], plant.n);
                    }
                    multiply(plant, vector);
                    nextSpace.include(vector, plant.n);
                }
            }
        }

        /** Computes w * e for all rows of the space; returns the first one for which it is not 0, or n. */
        private int putEffects(Plant plant) {
            int chosen = plant.n;
            for (int r = plant.n - 1; r >= 0; r--) {
                long sum = 0;
                for (int j = 0; j < plant.n; j++) {
                    sum += space.rows[r][j] * plant.e[j];
                }
                effect[r] = Math.floorMod(sum, PRIME);
                if (effect[r] != 0) {
                    chosen = r;
                }
            }
            return chosen;
        }

        private void putOutput(Plant plant, int o, long[] target) {
            for (int j = 0; j < plant.n; j++) {
                target[j] = Math.floorMod((long) plant.c[o][j], PRIME);
            }
        }

        /** Multiplies a row by A. */
        private void multiply(Plant plant, long[] factors) {
            for (int j = 0; j < plant.n; j++) {
                long sum = 0;
                for (int i = 0; i < plant.n; i++) {
                    sum += factors[i] * plant.a[i][j];
                }
                product[j] = Math.floorMod(sum, PRIME);
            }
            copyRow(product, factors);
        }
    }

    /**
     * The space of all sums of multiples of some rows: row j is 0 before its place j and not 0 there; where no
     * row has its lead at j, row j is 0.
     */
    private static final class Space {
        final long[][] rows = new long[STATES][STATES];
        int rank;

        void clear() {
            rank = 0;
            for (int j = 0; j < STATES; j++) {
                for (int i = 0; i < STATES; i++) {
                    rows[j][i] = 0;
                }
            }
        }

        void copyFrom(Space other) {
            rank = other.rank;
            for (int j = 0; j < STATES; j++) {
                copyRow(other.rows[j], rows[j]);
            }
        }

        /** Includes a vector, which is changed by that. */
        void include(long[] vector, int n) {
            for (int j = 0; j < n; j++) {
                if (vector[j] != 0 && rows[j][j] == 0) {
                    copyRow(vector, rows[j]);
                    rank++;
                    return;
                }
                if (vector[j] != 0) {
                    removeLead(vector, vector[j], rows[j], rows[j][j], n);
                }
            }
        }
    }
}
