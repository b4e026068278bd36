import java.io.IOException;
import java.nio.file.Files;
import java.nio.file.Path;
import java.util.List;

/**
 * Holds the class against LANGUAGE.md (see SourceRules), and SourceRules against members that break a rule: each is
 * put at the end of the class, and must be found out by the rule's number.
 */
public final class LanguageTest {
    private static final String[][] FAULTS = {
        {"1", "public int more() { return 0; }"},
        {"1", "int more() { return 0; }"},
        {"1", "int more;"},
        {"1", "public static final int SOME = -8;"},
        {"1", "private int step(int u) { return u; }"},
        {"1", "public static final class More { }"},
        {"2", "private static int more(int x) { class More { int y; } return x; }"},
        {"2", "private static Runnable more() { return () -> { }; }"},
        {"2", "private static Iterable<Integer> more(List<Integer> x) { return x::iterator; }"},
        {"2", "private final class More { }"},
        {"3", "private static Object more() { return null; }"},
        {"3", "private static int more(Object[] x) { return 0; }"},
        {"3", "private final int[][][] more = null;"},
        {"3", "private static int more(java.util.Map<Integer, Integer> x) { return 0; }"},
        {"3", "private static int more(Long x) { return 0; }"},
        {"3", "private static int more() { var x = Long.valueOf(1); return 0; }"},
        {"4", "private static int more(int x) { return Math.addExact(x, 1); }"},
        {"4", "private static double more(double x) { return Math.sqrt(x); }"},
        {"4", "private static double more(double x) { return Math.abs(x); }"},
        {"4", "private static int more(String x) { return x.compareTo(x); }"},
        {"4", "private static int more(int[] x) { return java.util.Arrays.hashCode(x); }"},
        {"4", "private static int more() { return \"\\u00e9\".length(); }"},
        {"4", "private static int more() { return Integer.MAX_VALUE; }"},
        {"5", "private static int more = 0;"},
        {"5", "private static final int MORE; static { MORE = 1; }"},
        {"5", "private static final StringBuilder MORE = new StringBuilder();"},
        {"5", "private static final int[] MORE = new int[3];"},
        {"6", "private static void more(int x) { throw new ArrayIndexOutOfBoundsException(); }"},
        {"6", "private static void more(int x) { throw new IllegalStateException(new String()); }"},
        {"6", "private static void more(RuntimeException x) { throw x; }"},
        {"6", "private static final class More { More() { throw new IllegalStateException(); } }"},
        {"6", "private static void more(int x) { try { } finally { } }"},
        {"6", "private static void more(int x) { try { quotient(x, x); } catch (ArithmeticException e) { } }"},
        {"6", "private static void more(int x) { assert x > 0; }"},
        {"6", "private synchronized void more(int x) { }"},
        {"6", "private static final class More { public int hashCode() { return 1; } }"},
        {"6", "private static boolean more(String x) { return x == \"a\"; }"},
        {"7", "private static int more(int x) { return 1 / x; }"},
        {"7", "private static int more(int x) { x %= x; return x; }"},
        {"7", "private static int more(int x) { return 1 % 0; }"},
        {"7", "private static int more(int x) { return Math.floorMod(1, x); }"},
        {"7", "private static int[] more(int x) { return new int[x]; }"},
        {"8", "private static int more(int x) { return x > 0 ? more(x - 1) : 0; }"},
        {"8", "private static int more(int x) { return most(x); } private static int most(int x) { return more(x); }"},
        {"9", "private static int more(int x) { while (x > 0) { x--; } return x; }"},
        {"9", "private static int more(int x) { do { x--; } while (x > 0); return x; }"},
        {"9", "private static int more(int x) { for (;;) { x--; } }"},
        {"9", "private static int more(int x) { for (int t = 0; t < x; ) { t++; } return x; }"},
        {"9", "private static int more(int x) { for (int t = 0; t < x; t--) { } return x; }"},
        {"9", "private static int more(int x) { for (int t = 0; t < x; t++) { t--; } return x; }"},
        {"9", "private static int more(int x) { for (int t = 0; t < x; t++) { x += 2; } return x; }"},
        {"9", "private static int more(int x) { for (int t = 0; t < 3 || x > 0; t++) { } return x; }"},
        {"10", "private static String more(int x) { return \"a\" + x; }"},
        {"11", "private static int more(int a, int b, int c, int d, int e, int f, int g, int h) { return 0; }"},
        {"11", "private int more(long x) { return runScript(1, x); } private int most(long x) { return more(x); }"},
        {"11", "private static int more(int x) {" + "x++;\n".repeat(60) + "return x; }"},
        {"11", "private int f1, f2, f3, f4, f5, f6, f7, f8, f9, f10, f11, f12;"},
        {"11", "private static class A1 { } private static class A2 { } private static class A3 { }"
            + " private static class A4 { }"},
        {"12", "private static int[] more() { return new int[3]; }"},
        {"12", "private static int more() { int[] x = {1, 2}; return x.length; }"},
        {"12", "private int more() { return new StringBuilder().length(); }"},
        {"13", "private static long more() { return System.nanoTime(); }"},
        {"13", "private static double more() { return Math.random(); }"},
    };

    /** What the rules allow and the class does or may do. */
    private static final String[] GOOD = {
        "private static int more(int x) { return x == 0 ? 0 : 1 / x; }",
        "private static int more(int[] x) { for (int v : x) { return v; } return 1 / 2; }",
        "private static int more(int x) { for (int t = x; t >= 0; t--) { x++; } return x; }",
        "private static int more(String x) { return x.length() + x.charAt(0); }",
        "private final StringBuilder more = new StringBuilder();",
        "private static final int[] MORE = {1, 2, 3};",
    };

    public static void main(String[] args) throws IOException {
        Path path = Path.of(args.length > 0 ? args[0] : "src/main/java/StateObserver.java");
        String source = Files.readString(path);
        int wrong = 0;
        for (String fault : new SourceRules(source).faults()) {
            System.out.println(path + ": " + fault);
            wrong++;
        }
        for (String[] fault : FAULTS) {
            List<String> found = new SourceRules(spoiled(source, fault[1])).faults();
            if (found.stream().noneMatch(f -> f.startsWith("rule " + fault[0] + ","))) {
                System.out.println("rule " + fault[0] + " does not find out " + fault[1] + ", but " + found);
                wrong++;
            }
        }
        for (String good : GOOD) {
            for (String fault : new SourceRules(spoiled(source, good)).faults()) {
                System.out.println("said of what is allowed, " + good + ": " + fault);
                wrong++;
            }
        }
        System.out.println("the class, " + FAULTS.length + " broken rules and " + GOOD.length + " kept ones, " + wrong + " wrong");
        System.exit(wrong == 0 ? 0 : 1);
    }

    private static String spoiled(String source, String member) {
        return "import java.util.List;\n" + source.substring(0, source.lastIndexOf('}')) + member + "\n}\n";
    }
}
