import java.math.BigInteger;
import java.util.ArrayDeque;
import java.util.ArrayList;
import java.util.Arrays;
import java.util.Deque;
import java.util.List;

/**
 * The document once more, written for plainness alone and by other means than the class where there are any:
 * intervals are cut value by value, the text is held against a list of allowed characters, hidden spaces are
 * made of basis vectors, and states are copied whole.
 */
final class Reference {
    private static final BigInteger PRIME = BigInteger.valueOf(1000003);
    private static final int NONE = -9;

    private final StringBuilder text = new StringBuilder();
    private int n = 1;
    private int p = 1;
    private long[][] a = {{16}};
    private long[] b = {1};
    private long[] e = {0};
    private long[][] c = {{1}};
    private long[] quantum = {1};
    private State now = new State(1, 1);
    private Deque<State> remembered = new ArrayDeque<>();
    private State[] slots = new State[2];

    private static final class State implements Cloneable {
        long[] truth;
        long[] lower;
        long[] upper;
        long[] estimate;
        long[][] gain;
        long hold = 0;
        long bound = 0;
        int time = 0;
        Long[] reading;
        long[] readAt;
        State before = null;
        long inputThen = 0;

        State(int n, int p) {
            truth = new long[n];
            lower = new long[n];
            upper = new long[n];
            Arrays.fill(lower, -1000);
            Arrays.fill(upper, 1000);
            estimate = new long[n];
            gain = new long[n][p];
            reading = new Long[p];
            readAt = new long[p];
        }

        State twin() {
            State s;
            try {
                s = (State) clone();
            } catch (CloneNotSupportedException x) {
                throw new AssertionError(x);
            }
            s.truth = truth.clone();
            s.lower = lower.clone();
            s.upper = upper.clone();
            s.estimate = estimate.clone();
            s.gain = new long[gain.length][];
            for (int i = 0; i < gain.length; i++) {
                s.gain[i] = gain[i].clone();
            }
            s.reading = reading.clone();
            s.readAt = readAt.clone();
            return s;
        }

        boolean fresh(int k) {
            return reading[k] != null && readAt[k] == time;
        }
    }

    private static IndexOutOfBoundsException index() {
        return new IndexOutOfBoundsException();
    }

    private static IllegalArgumentException argument() {
        return new IllegalArgumentException();
    }

    private static IllegalStateException state() {
        return new IllegalStateException();
    }

    private static void need(boolean holds, RuntimeException otherwise) {
        if (!holds) {
            throw otherwise;
        }
    }

    private static boolean between(long v, long least, long greatest) {
        return least <= v && v <= greatest;
    }

    private static long floor(long x, long y) {
        BigInteger[] parts = BigInteger.valueOf(x).divideAndRemainder(BigInteger.valueOf(y));
        boolean below = parts[1].signum() != 0 && parts[1].signum() != Long.signum(y);
        return parts[0].longValueExact() - (below ? 1 : 0);
    }

    private static long limit(long v, long most) {
        return v > most ? most : v < -most ? -most : v;
    }

    // text

    int append(int character) {
        need(between(character, 0, 255), argument());
        need(text.length() < 200, state());
        text.append((char) character);
        return text.length();
    }

    int clearText() {
        int before = text.length();
        text.setLength(0);
        return before;
    }

    /** The characters that are allowed at each place, as far as the text decides them. */
    private List<String> allowed() {
        String digits = "0123456789";
        List<String> list = new ArrayList<>(List.of("N", "1234", "123", digits, digits, digits));
        if (text.length() < 3 || "1234".indexOf(text.charAt(1)) < 0 || "123".indexOf(text.charAt(2)) < 0) {
            return list;
        }
        int states = text.charAt(1) - '0';
        int outputs = text.charAt(2) - '0';
        List<String> number = List.of("+-", digits, digits);
        for (int i = 0; i < states; i++) {
            list.add("r");
            for (int j = 0; j < states + 2; j++) {
                list.addAll(number);
            }
        }
        for (int k = 0; k < outputs; k++) {
            list.add("o");
            for (int j = 0; j < states; j++) {
                list.addAll(number);
            }
            list.add(digits);
            int tens = list.size() - 1;
            list.add(tens < text.length() && text.charAt(tens) == '0' ? "123456789" : digits);
        }
        while (list.size() < text.length()) {
            list.add("g");
            list.add(digits.substring(0, states));
            list.add(digits.substring(0, outputs));
            list.addAll(number);
        }
        return list;
    }

    int errorPosition() {
        List<String> list = allowed();
        for (int i = 0; i < list.size(); i++) {
            if (i >= text.length() || list.get(i).indexOf(text.charAt(i)) < 0) {
                return i;
            }
        }
        return NONE;
    }

    private long number(int at) {
        return Long.parseLong(text.substring(at, at + 3));
    }

    int load() {
        need(errorPosition() == NONE, state());
        n = text.charAt(1) - '0';
        p = text.charAt(2) - '0';
        now = new State(n, p);
        now.bound = Long.parseLong(text.substring(3, 5));
        now.hold = Long.parseLong(text.substring(5, 6));
        a = new long[n][n];
        b = new long[n];
        e = new long[n];
        c = new long[p][n];
        quantum = new long[p];
        int at = 6;
        for (int i = 0; i < n; i++, at += 3 * n + 7) {
            for (int j = 0; j < n; j++) {
                a[i][j] = number(at + 1 + 3 * j);
            }
            b[i] = number(at + 1 + 3 * n);
            e[i] = number(at + 4 + 3 * n);
        }
        for (int k = 0; k < p; k++, at += 3 * n + 3) {
            for (int j = 0; j < n; j++) {
                c[k][j] = number(at + 1 + 3 * j);
            }
            quantum[k] = Long.parseLong(text.substring(at + 1 + 3 * n, at + 3 + 3 * n));
        }
        for (; at < text.length(); at += 6) {
            now.gain[text.charAt(at + 1) - '0'][text.charAt(at + 2) - '0'] = number(at + 3);
        }
        remembered = new ArrayDeque<>();
        slots = new State[2];
        return n;
    }

    // the system

    long about(int what) {
        need(between(what, 0, 4), argument());
        return new long[] {n, p, now.bound, now.hold, now.time}[what];
    }

    long coefficient(int what, int i, int j) {
        need(between(what, 0, 5), argument());
        int rows = what == 3 || what == 4 ? p : n;
        int columns = what == 0 || what == 3 ? n : what == 5 ? p : 1;
        need(between(i, 0, rows - 1) && between(j, 0, columns - 1), index());
        if (what == 1 || what == 2 || what == 4) {
            return (what == 1 ? b : what == 2 ? e : quantum)[i];
        }
        return (what == 0 ? a : what == 3 ? c : now.gain)[i][j];
    }

    long state(int i, int what) {
        need(between(i, 0, n - 1), index());
        need(between(what, 0, 4), argument());
        long inside = now.estimate[i];
        if (inside < 16 * now.lower[i]) {
            inside = 16 * now.lower[i];
        }
        if (inside > 16 * now.upper[i]) {
            inside = 16 * now.upper[i];
        }
        return new long[] {now.truth[i], now.lower[i], now.upper[i], now.estimate[i], inside}[what];
    }

    long output(int k, int what) {
        need(between(k, 0, p - 1), index());
        need(between(what, 0, 3), argument());
        need(what > 1 || now.reading[k] != null, state());
        if (what == 0) {
            return now.reading[k];
        }
        return what == 1 ? now.time - now.readAt[k] : floor(extreme(c[k], now, what == 3, -1), quantum[k]);
    }

    long width() {
        return width(now);
    }

    private long width(State s) {
        long sum = 0;
        for (int i = 0; i < n; i++) {
            sum += s.upper[i] - s.lower[i];
        }
        return sum;
    }

    private static long sum(long[] factors, long[] values) {
        long sum = 0;
        for (int j = 0; j < factors.length; j++) {
            sum += factors[j] * values[j];
        }
        return sum;
    }

    private long extreme(long[] factors, State s, boolean greatest, int without) {
        long sum = 0;
        for (int j = 0; j < n; j++) {
            long one = factors[j] * s.lower[j];
            long other = factors[j] * s.upper[j];
            sum += j == without ? 0 : greatest ? Math.max(one, other) : Math.min(one, other);
        }
        return sum;
    }

    // dynamics

    private void advance(State s, int u, int d) {
        s.before = s.twin();
        s.before.before = null;
        s.inputThen = u;
        State old = s.before;
        for (int i = 0; i < n; i++) {
            long unknown = Math.abs(e[i]) * old.bound;
            s.truth[i] = limit(floor(sum(a[i], old.truth), 16) + b[i] * u + e[i] * d, 1000000);
            s.lower[i] = limit(floor(extreme(a[i], old, false, -1), 16) + b[i] * u - unknown, 1000000);
            s.upper[i] = limit(floor(extreme(a[i], old, true, -1), 16) + b[i] * u + unknown, 1000000);
            long g = 0;
            for (int k = 0; k < p; k++) {
                if (old.reading[k] != null && old.time - old.readAt[k] <= old.hold) {
                    long middle = 16 * quantum[k] * old.reading[k] + 8 * (quantum[k] - 1);
                    g += old.gain[i][k] * (middle - sum(c[k], old.estimate));
                }
            }
            s.estimate[i] = limit(floor(sum(a[i], old.estimate), 16) + 16 * b[i] * u + floor(g, 16), 16000000);
        }
        s.time++;
    }

    private long reading(State s, int k) {
        return floor(sum(c[k], s.truth), quantum[k]);
    }

    private void observe(State s, int k) {
        s.reading[k] = reading(s, k);
        s.readAt[k] = s.time;
        if (!tighten(s)) {
            throw new AssertionError("a reading failed");
        }
    }

    private boolean tighten(State s) {
        for (int pass = 0; pass < 100; pass++) {
            boolean changed = false;
            for (int k = 0; k < p; k++) {
                for (int j = 0; s.fresh(k) && j < n; j++) {
                    if (c[k][j] == 0) {
                        continue;
                    }
                    long least = extreme(c[k], s, false, j);
                    long greatest = extreme(c[k], s, true, j);
                    // the values that are allowed lie side by side, so it is enough to look at the ends
                    while (s.lower[j] <= s.upper[j] && !allows(s, k, c[k][j] * s.lower[j], least, greatest)) {
                        s.lower[j]++;
                        changed = true;
                    }
                    while (s.lower[j] <= s.upper[j] && !allows(s, k, c[k][j] * s.upper[j], least, greatest)) {
                        s.upper[j]--;
                        changed = true;
                    }
                    if (s.lower[j] > s.upper[j]) {
                        return false;
                    }
                }
            }
            if (!changed) {
                return true;
            }
        }
        return true;
    }

    private boolean allows(State s, int k, long product, long least, long greatest) {
        long low = quantum[k] * s.reading[k];
        long high = quantum[k] * s.reading[k] + quantum[k] - 1;
        return product + greatest >= low && product + least <= high;
    }

    private boolean meets(State s, long[] values) {
        for (int i = 0; i < n; i++) {
            if (!between(values[i], s.lower[i], s.upper[i])) {
                return false;
            }
        }
        for (int k = 0; k < p; k++) {
            long low = s.fresh(k) ? quantum[k] * s.reading[k] : 0;
            if (s.fresh(k) && !between(sum(c[k], values), low, low + quantum[k] - 1)) {
                return false;
            }
        }
        return true;
    }

    // actions

    private void remember() {
        remembered.push(now.twin());
        while (remembered.size() > 14) {
            remembered.removeLast();
        }
    }

    long place(int i, int v) {
        need(between(i, 0, n - 1), index());
        long[] values = now.truth.clone();
        values[i] = v;
        need(meets(now, values), state());
        remember();
        long before = now.truth[i];
        now.truth = values;
        return before;
    }

    long step(int u, int d) {
        need(between(u, -99, 99) && between(d, -now.bound, now.bound), argument());
        remember();
        advance(now, u, d);
        return now.time;
    }

    long read(int k) {
        need(between(k, 0, p - 1), index());
        remember();
        observe(now, k);
        return now.reading[k];
    }

    long shave(int i, int m) {
        need(between(i, 0, n - 1), index());
        need(between(m, 1, 100), argument());
        remember();
        long cut = 0;
        while (cut < m && fails(i, now.lower[i])) {
            now.lower[i]++;
            cut++;
        }
        long cutAbove = 0;
        while (cutAbove < m && fails(i, now.upper[i])) {
            now.upper[i]--;
            cutAbove++;
        }
        return cut + cutAbove;
    }

    private boolean fails(int i, long v) {
        State s = now.twin();
        s.lower[i] = v;
        s.upper[i] = v;
        return !tighten(s);
    }

    long setGain(int i, int k, int v) {
        need(between(i, 0, n - 1) && between(k, 0, p - 1), index());
        need(between(v, -99, 99), argument());
        remember();
        long before = now.gain[i][k];
        now.gain[i][k] = v;
        return before;
    }

    long setHold(int v) {
        need(between(v, 0, 9), argument());
        remember();
        long before = now.hold;
        now.hold = v;
        return before;
    }

    long setBound(int v) {
        need(between(v, 0, 99), argument());
        remember();
        long before = now.bound;
        now.bound = v;
        return before;
    }

    long undo() {
        need(!remembered.isEmpty(), state());
        now = remembered.pop();
        return remembered.size();
    }

    // questions

    long canBe(int v0, int v1, int v2, int v3) {
        long[] values = {v0, v1, v2, v3};
        for (int i = n; i < 4; i++) {
            need(values[i] == 0, argument());
        }
        return meets(now, Arrays.copyOf(values, n)) ? 1 : 0;
    }

    long widthIf(int k, int y) {
        need(between(k, 0, p - 1), index());
        need(between(y, -1000000, 1000000), argument());
        State s = now.twin();
        s.reading[k] = (long) y;
        s.readAt[k] = s.time;
        return tighten(s) ? width(s) : NONE;
    }

    long ahead(int steps, int u, int i, boolean upper) {
        need(between(i, 0, n - 1), index());
        need(between(steps, 0, 60) && between(u, -99, 99), argument());
        State s = now.twin();
        for (int t = 0; t < steps; t++) {
            advance(s, u, 0);
        }
        return (upper ? s.upper : s.lower)[i];
    }

    long earliest(int i, int v, int u, boolean surely) {
        need(between(i, 0, n - 1), index());
        need(between(u, -99, 99), argument());
        for (int steps = 0; steps <= 60; steps++) {
            if (ahead(steps, u, i, !surely) >= v) {
                return steps;
            }
        }
        return NONE;
    }

    long unknown(boolean upper) {
        need(now.before != null, state());
        List<Long> possible = new ArrayList<>();
        for (long d = -now.before.bound; d <= now.before.bound; d++) {
            boolean fits = true;
            for (int i = 0; i < n; i++) {
                long low = floor(extreme(a[i], now.before, false, -1), 16);
                long high = floor(extreme(a[i], now.before, true, -1), 16);
                if (e[i] != 0 && now.lower[i] > -1000000) {
                    fits &= e[i] * d >= now.lower[i] - b[i] * now.inputThen - high;
                }
                if (e[i] != 0 && now.upper[i] < 1000000) {
                    fits &= e[i] * d <= now.upper[i] - b[i] * now.inputThen - low;
                }
            }
            if (fits) {
                possible.add(d);
            }
        }
        need(!possible.isEmpty(), state());
        return possible.get(upper ? possible.size() - 1 : 0);
    }

    // observability

    private static BigInteger[] exact(long[] row) {
        BigInteger[] big = new BigInteger[row.length];
        for (int j = 0; j < row.length; j++) {
            big[j] = BigInteger.valueOf(row[j]).mod(PRIME);
        }
        return big;
    }

    /** Brings a matrix into reduced row echelon form and returns the columns of the leads. */
    private static List<Integer> reduce(List<BigInteger[]> rows, int columns) {
        List<Integer> leads = new ArrayList<>();
        for (int j = 0; j < columns; j++) {
            int lead = leads.size();
            int found = -1;
            for (int r = lead; r < rows.size() && found < 0; r++) {
                found = rows.get(r)[j].signum() != 0 ? r : -1;
            }
            if (found < 0) {
                continue;
            }
            BigInteger[] chosen = rows.remove(found);
            rows.add(lead, chosen);
            BigInteger inverse = chosen[j].modInverse(PRIME);
            for (int t = 0; t < columns; t++) {
                chosen[t] = chosen[t].multiply(inverse).mod(PRIME);
            }
            for (int r = 0; r < rows.size(); r++) {
                BigInteger factor = rows.get(r)[j];
                for (int t = 0; r != lead && t < columns; t++) {
                    rows.get(r)[t] = rows.get(r)[t].subtract(factor.multiply(chosen[t])).mod(PRIME);
                }
            }
            leads.add(j);
        }
        return leads;
    }

    /** A basis of all x for which the rows times x are 0. */
    private static List<BigInteger[]> kernel(List<BigInteger[]> rows, int columns) {
        List<Integer> leads = reduce(rows, columns);
        List<BigInteger[]> basis = new ArrayList<>();
        for (int j = 0; j < columns; j++) {
            if (leads.contains(j)) {
                continue;
            }
            BigInteger[] x = exact(new long[columns]);
            x[j] = BigInteger.ONE;
            for (int r = 0; r < leads.size(); r++) {
                x[leads.get(r)] = rows.get(r)[j].negate().mod(PRIME);
            }
            basis.add(x);
        }
        return basis;
    }

    long rankAfter(int k) {
        need(between(k, 1, 8), argument());
        List<BigInteger[]> rows = new ArrayList<>();
        for (long[] output : c) {
            BigInteger[] row = exact(output);
            for (int power = 0; power < k; power++) {
                rows.add(row.clone());
                BigInteger[] product = exact(new long[n]);
                for (int j = 0; j < n; j++) {
                    for (int i = 0; i < n; i++) {
                        product[j] = product[j].add(row[i].multiply(BigInteger.valueOf(a[i][j]))).mod(PRIME);
                    }
                }
                row = product;
            }
        }
        return reduce(rows, n).size();
    }

    long observabilityIndex() {
        for (int k = 1; k <= n; k++) {
            if (rankAfter(k) == n) {
                return k;
            }
        }
        return NONE;
    }

    long hiddenDimension(int k) {
        need(between(k, 0, 8), argument());
        List<BigInteger[]> basis = kernel(new ArrayList<>(), n);
        for (int round = 0; round < k; round++) {
            basis = hidden(basis);
        }
        return basis.size();
    }

    /** The vectors x with C * x = 0 and A * x - (a sum of basis vectors) - (a multiple of e) = 0. */
    private List<BigInteger[]> hidden(List<BigInteger[]> basis) {
        int columns = n + basis.size() + 1;
        List<BigInteger[]> rows = new ArrayList<>();
        for (long[] output : c) {
            rows.add(exact(Arrays.copyOf(output, columns)));
        }
        for (int i = 0; i < n; i++) {
            BigInteger[] row = exact(Arrays.copyOf(a[i], columns));
            for (int t = 0; t < basis.size(); t++) {
                row[n + t] = basis.get(t)[i].negate().mod(PRIME);
            }
            row[columns - 1] = BigInteger.valueOf(-e[i]).mod(PRIME);
            rows.add(row);
        }
        List<BigInteger[]> solutions = new ArrayList<>();
        for (BigInteger[] solution : kernel(rows, columns)) {
            solutions.add(Arrays.copyOf(solution, n));
        }
        int dimension = reduce(solutions, n).size();
        return new ArrayList<>(solutions.subList(0, dimension));
    }

    long touched() {
        long set = 0;
        for (int k = 0; k < p; k++) {
            set += sum(c[k], e) != 0 ? Math.round(Math.pow(2, k)) : 0;
        }
        return set;
    }

    /** All combinations of states on which the unknown input does not act. */
    private List<long[]> combinations() {
        List<long[]> all = new ArrayList<>();
        int t = 0;
        while (t < n && e[t] == 0) {
            t++;
        }
        for (int s = 0; s < n; s++) {
            long[] factors = new long[n];
            if (t == n) {
                factors[s] = 1;
            } else if (s != t) {
                long g = BigInteger.valueOf(e[s]).gcd(BigInteger.valueOf(e[t])).longValue();
                factors[s] = Math.abs(e[t]) / g;
                factors[t] = e[t] > 0 ? -e[s] / g : e[s] / g;
            } else {
                continue;
            }
            all.add(factors);
        }
        return all;
    }

    long free(int q, int j) {
        need(between(q, 0, combinations().size() - 1) && between(j, 0, n - 1), index());
        return combinations().get(q)[j];
    }

    long freeRange(int q, boolean upper) {
        need(between(q, 0, combinations().size() - 1), index());
        return extreme(combinations().get(q), now, upper, -1);
    }

    // scripts, simulations

    long runScript(int count, long script) {
        need(between(count, 1, 4), argument());
        need(script >= 0 && Long.toString(script).length() <= 4 * count, argument());
        String digits = "0".repeat(4 * count - Long.toString(script).length()) + script;
        State s = now.twin();
        for (int t = 0; t < count; t++) {
            if (!run(s, digits.substring(4 * t, 4 * t + 4))) {
                return t;
            }
        }
        return NONE;
    }

    private boolean run(State s, String group) {
        int d2 = group.charAt(1) - '0';
        int d4 = group.charAt(3) - '0';
        int pair = Integer.parseInt(group.substring(2));
        int input = Integer.parseInt(group.substring(1, 3));
        if (group.matches("[12]...") && d4 <= s.bound) {
            int sign = group.charAt(0) == '1' ? 1 : -1;
            advance(s, sign * input, sign * d4);
            return true;
        }
        if (group.matches("300.") && d4 < p) {
            observe(s, d4);
            return true;
        }
        return group.matches("4...") && d2 < n && s.upper[d2] - s.lower[d2] <= pair
            || group.matches("5...") && d2 < n && s.lower[d2] >= pair
            || group.matches("6.0.") && d2 < p && s.reading[d2] != null && s.time - s.readAt[d2] == d4
            || group.matches("7...") && d2 < n && s.truth[d2] <= pair;
    }

    long simulate(long seed, int m) {
        need(between(m, 1, 100), argument());
        State s = now.twin();
        BigInteger x = BigInteger.valueOf(seed);
        BigInteger end = BigInteger.ONE.shiftLeft(64);
        long sum = 0;
        for (int t = 0; t < m; t++) {
            x = x.multiply(new BigInteger("6364136223846793005")).add(new BigInteger("1442695040888963407")).mod(end);
            int r = x.shiftRight(33).intValueExact();
            advance(s, r % 21 - 10, (int) (r / 32 % (2 * s.bound + 1) - s.bound));
            if (r / 8192 % 4 != 0) {
                observe(s, r / 32768 % p);
            }
            sum += width(s);
        }
        return sum;
    }

    // save slots

    long save(int slot) {
        need(between(slot, 0, 1), index());
        slots[slot] = now.twin();
        return now.time;
    }

    long restore(int slot) {
        need(between(slot, 0, 1), index());
        need(slots[slot] != null, state());
        now = slots[slot].twin();
        remembered.clear();
        return now.time;
    }
}
