/** Promises 2 to 5: the text buffer, its check, and load. */
public final class TextTest {
    private static final String PLAIN = "N11000r+16+01+00o+0101";

    public static void main(String[] args) {
        Checks t = new Checks();
        promise2Append(t);
        promise3ClearText(t);
        promise4ErrorPosition(t);
        promise4Gains(t);
        promise4FullText(t);
        promise4Again(t);
        promise5Load(t);
        promise5Forgets(t);
        promise5Refuses(t);
        t.finish();
    }

    private static void promise2Append(Checks t) {
        StateObserver x = new StateObserver();
        t.due("append(0)", x.append(0), 1);
        t.due("append(255)", x.append(255), 2);
        t.argument("append(-1)", () -> x.append(-1));
        t.argument("append(256)", () -> x.append(256));
        t.argument("append(65536 + 'N')", () -> x.append(65536 + 'N'));
        t.argument("append(the least int)", () -> x.append(Integer.MIN_VALUE));
        for (int length = 3; length <= 200; length++) {
            t.due("append('a')", x.append('a'), length);
        }
        t.state("append('a') to a full text", () -> x.append('a'));
        t.argument("append(256) to a full text", () -> x.append(256));
        t.due("clearText()", x.clearText(), 200);
        t.due("append('N')", x.append('N'), 1);
    }

    private static void promise3ClearText(Checks t) {
        StateObserver x = new StateObserver();
        t.due("clearText() of an empty text", x.clearText(), 0);
        x.append('N');
        x.append('1');
        t.due("clearText()", x.clearText(), 2);
        t.due("clearText() again", x.clearText(), 0);
        t.due("errorPosition()", x.errorPosition(), 0);
    }

    private static void position(Checks t, String text, int want) {
        t.due("errorPosition() of " + text, Checks.written(text).errorPosition(), want);
    }

    private static void promise4ErrorPosition(Checks t) {
        position(t, PLAIN, StateObserver.NONE);
        for (int length = 0; length < PLAIN.length(); length++) {
            position(t, PLAIN.substring(0, length), length);
            position(t, PLAIN.substring(0, length) + "?" + PLAIN.substring(length), length);
            position(t, PLAIN.substring(0, length) + (char) 255 + PLAIN.substring(length), length);
        }
        position(t, "n", 0);
        position(t, " " + PLAIN, 0);
        position(t, "N0", 1);
        position(t, "N5", 1);
        position(t, "N4", 2);
        position(t, "N10", 2);
        position(t, "N14", 2);
        position(t, "N13", 3);
        position(t, "N11-0", 3);
        position(t, "N11:", 3);
        position(t, "N11/", 3);
        position(t, "N119/", 4);
        position(t, "N119:", 4);
        position(t, "N11999o", 6);
        position(t, "N11999r-99-99-99o-9999", StateObserver.NONE);
        position(t, "N11000r-00+00-00o-0010", StateObserver.NONE);
        position(t, "N11000r+16+01+00o+0100", 21);
        position(t, "N11000r+16+01+00o+0109", StateObserver.NONE);
        position(t, "N11000r+16+01r+00o+0101", 13);
        position(t, "N11000r+16+01+00r+0101", 16);
        position(t, "N21000r+16+01+00o+0101", 16);
        position(t, "N12000r+16+01+00o+0101", 22);
        position(t, "N12000r+16+01+00o+0101o+0202", StateObserver.NONE);
        position(t, "N21000r+16+01+00+00r+16+01+00+00o+01+0101", StateObserver.NONE);
        position(t, "N21000r+16+01+00+00r+16+01+00+00o+01+010g", 40);
    }

    private static void promise4Gains(Checks t) {
        position(t, PLAIN + "N", 22);
        position(t, PLAIN + "o+0101", 22);
        position(t, PLAIN + "g", 23);
        position(t, PLAIN + "g1", 23);
        position(t, PLAIN + "g-", 23);
        position(t, PLAIN + "g01", 24);
        position(t, PLAIN + "g00", 25);
        position(t, PLAIN + "g00+", 26);
        position(t, PLAIN + "g00+0", 27);
        position(t, PLAIN + "g00+05", StateObserver.NONE);
        position(t, PLAIN + "g00+05g00-99", StateObserver.NONE);
        position(t, PLAIN + "g00+05g00-9 ", 33);
        position(t, PLAIN + "g00+05h", 28);
        String wide = "N13000r+16+01+00o+0101o+0101o+0101";
        position(t, wide + "g02+01", StateObserver.NONE);
        position(t, wide + "g03+01", 36);
        position(t, wide + "g10+01", 35);
    }

    private static void promise4FullText(Checks t) {
        StringBuilder s = new StringBuilder("N43999");
        for (int i = 0; i < 4; i++) {
            s.append("r+01-02+03-04+05-06");
        }
        for (int k = 0; k < 3; k++) {
            s.append("o+01-02+03-0499");
        }
        for (int g = 0; g < 12; g++) {
            s.append('g').append(g / 3).append(g % 3).append("-11");
        }
        t.due("the length", s.length(), 199);
        position(t, s.toString(), StateObserver.NONE);
        position(t, s + "g", 200);
        position(t, s + "x", 199);
        StateObserver x = Checks.loaded(s.toString());
        t.due("coefficient(5, 3, 2)", x.coefficient(5, 3, 2), -11);
        t.due("coefficient(0, 3, 3)", x.coefficient(0, 3, 3), -4);
        t.due("coefficient(3, 2, 3)", x.coefficient(3, 2, 3), -4);
    }

    private static void promise4Again(Checks t) {
        StateObserver x = Checks.written(PLAIN + "g00");
        t.due("errorPosition()", x.errorPosition(), 25);
        x.append('+');
        x.append('0');
        t.due("errorPosition()", x.errorPosition(), 27);
        x.append('7');
        t.due("errorPosition()", x.errorPosition(), StateObserver.NONE);
        x.clearText();
        t.due("errorPosition()", x.errorPosition(), 0);
    }

    private static void promise5Load(Checks t) {
        String text = "N22073r+01-02+03-04r+05+06-07+08o+09-1011o+12+1314g01-15g10+16g01+17";
        StateObserver x = Checks.written(text);
        t.due("load()", x.load(), 2);
        int[] numbers = {2, 2, 7, 3, 0};
        for (int what = 0; what < numbers.length; what++) {
            t.due("about(" + what + ")", x.about(what), numbers[what]);
        }
        int[][] rows = {{1, -2, 3, -4}, {5, 6, -7, 8}};
        int[][] outputs = {{9, -10, 11}, {12, 13, 14}};
        int[][] gains = {{0, 17}, {16, 0}};
        for (int i = 0; i < 2; i++) {
            for (int j = 0; j < 2; j++) {
                t.due("A", x.coefficient(0, i, j), rows[i][j]);
                t.due("C", x.coefficient(3, i, j), outputs[i][j]);
                t.due("G", x.coefficient(5, i, j), gains[i][j]);
            }
            t.due("b", x.coefficient(1, i, 0), rows[i][2]);
            t.due("e", x.coefficient(2, i, 0), rows[i][3]);
            t.due("quantum", x.coefficient(4, i, 0), outputs[i][2]);
        }
        t.due("clearText(): the text is kept", x.clearText(), text.length());
    }

    private static void promise5Forgets(Checks t) {
        StateObserver x = Checks.loaded(PLAIN + "g00+05");
        x.place(0, 7);
        x.read(0);
        x.setGain(0, 0, 9);
        x.setHold(4);
        x.setBound(3);
        x.step(5, 2);
        x.save(0);
        x.save(1);
        t.due("load()", x.load(), 1);
        int[] first = {0, -1000, 1000, 0, 0};
        for (int what = 0; what < first.length; what++) {
            t.due("state(0, " + what + ")", x.state(0, what), first[what]);
        }
        t.due("the gain", x.coefficient(5, 0, 0), 5);
        t.due("the bound", x.about(2), 0);
        t.due("the hold", x.about(3), 0);
        t.due("the time", x.about(4), 0);
        t.state("output(0, 0)", () -> x.output(0, 0));
        t.state("unknown(true)", () -> x.unknown(true));
        t.state("undo()", x::undo);
        t.state("restore(0)", () -> x.restore(0));
        t.state("restore(1)", () -> x.restore(1));
        x.clearText();
        for (int i = 0; i < PLAIN.length(); i++) {
            x.append(PLAIN.charAt(i));
        }
        x.load();
        t.due("the gain that is not given", x.coefficient(5, 0, 0), 0);
    }

    private static void promise5Refuses(Checks t) {
        StateObserver x = Checks.loaded("N12053r+10+02+03o+0405o+0607");
        x.step(1, 0);
        x.save(0);
        t.due("load()", x.load(), 1);
        x.step(1, 0);
        x.save(0);
        x.append('g');
        t.state("load() of a wrong text", x::load);
        t.due("about(1)", x.about(1), 2);
        t.due("about(2)", x.about(2), 5);
        t.due("about(4)", x.about(4), 1);
        t.due("coefficient(0, 0, 0)", x.coefficient(0, 0, 0), 10);
        t.due("coefficient(4, 1, 0)", x.coefficient(4, 1, 0), 7);
        t.due("undo()", x.undo(), 0);
        t.due("restore(0)", x.restore(0), 1);
        StateObserver empty = new StateObserver();
        t.state("load() of an empty text", empty::load);
    }
}
