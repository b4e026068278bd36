/** What the document says of the text, and promises 2 to 5. */
public final class TextTest {
    private static final String PLAIN = "N11000r+16+01+00o+0101";
    /** All that a text can have, and the kind of each of its characters (D: a digit, Q: one of 1 to 9, S: a sign). */
    private static final String WHOLE = "N22073r+01-02+03-04r+05+06-07+08o+09-1002o+12+1301g01-15g10+16";
    private static final String KINDS = "NnpDDDrSDDSDDSDDSDDrSDDSDDSDDSDDoSDDSDDDQoSDDSDDDQgIISDDgIISDD";

    public static void main(String[] args) {
        Checks.main(TextTest.class);
    }

    private static void position(Checks t, String text, int want) {
        t.due("errorPosition() of " + text, Checks.written(text).errorPosition(), want);
    }

    private static void systemText(Checks t, String text) {
        position(t, text, StateObserver.NONE);
    }

    private static String repeated(String part, int times) {
        StringBuilder s = new StringBuilder();
        for (int i = 0; i < times; i++) {
            s.append(part);
        }
        return s.toString();
    }

    // ---- the description

    @Holds(promise = {2, 4, 5}, in = "TEXT", sentence = "The object has a text buffer of at most 200 characters.")
    static void longestText(Checks t) {
        String longest = "N22073r+01-02+03-04r+05+06-07+08o+09-1002o+12+1301" + repeated("g01-15", 24) + "g11+99";
        t.due("the length", longest.length(), 200);
        systemText(t, longest);
        t.run("type(" + longest + ") = 200; append(48) = throws IllegalStateException; errorPosition() = NONE; load() = 2",
            "coefficient(5, 0, 1) = -15; coefficient(5, 1, 1) = 99; clearText() = 200");
        // 200 characters that end behind each character of a gain but the last but one, where none can end
        String[] plants = {"N41000" + repeated("r+00+01+02+03+04+05", 4) + "o+00+01+02+0304",
            "N31000" + repeated("r+00+01+02+03+04", 3) + "o+00+01+0203", "N21000r+01+02+03+04r+05+06+07+08o+09+1011", PLAIN};
        for (int i = 0; i < plants.length; i++) {
            String full = (plants[i] + repeated("g00-01", 30)).substring(0, 200);
            t.due("what the text ends with", full.endsWith("-01" + "g00-".substring(0, i + 1)), true);
            t.run("type(" + full + ") = 200; errorPosition() = 200; append(48) = throws IllegalStateException",
                "load() = throws IllegalStateException; errorPosition() = 200; clearText() = 200");
        }
    }

    @Holds(promise = {4, 5}, in = "TEXT", sentence = "A system text is: the letter N, the digit n (1 to 4), the digit p (1"
        + " to 3), two digits for the bound, a digit for the hold;")
    static void head(Checks t) {
        position(t, "N", 1);
        position(t, "n", 0);
        position(t, "M", 0);
        position(t, "O", 0);
        for (char n : new char[] {'0', '5', '9', '/', 'N', '+', (char) 0, (char) 255}) {
            position(t, "N" + n + "1000", 1);
        }
        for (char p : new char[] {'0', '4', '9', '/', 'r', (char) 0, (char) 255}) {
            position(t, "N1" + p + "000", 2);
        }
        for (int place = 3; place < 6; place++) {
            for (char digit : new char[] {'/', ':', '+', 'r', ' ', (char) 128}) {
                position(t, "N11000".substring(0, place) + digit, place);
            }
        }
        for (char n = '1'; n <= '4'; n++) {
            for (char p = '1'; p <= '3'; p++) {
                position(t, "N" + n + p, 3);
                position(t, "N" + n + p + "999", 6);
                position(t, "N" + n + p + "000r", 7);
            }
        }
        t.run("plant(N11000r+16+01+00o+0101); about(2) = 0; about(3) = 0");
        t.run("plant(N11999r+16+01+00o+0101); about(2) = 99; about(3) = 9");
        t.run("plant(N11103r+16+01+00o+0101); about(2) = 10; about(3) = 3");
        t.run("plant(N11030r+16+01+00o+0101); about(2) = 3; about(3) = 0");
    }

    @Holds(promise = {4, 5}, in = "TEXT", sentence = "then, for each state i in the order of their numbers, the letter r and"
        + " n + 2 numbers: A(i, 0), A(i, 1) and so on, b(i), e(i);")
    static void rowsOfTheStates(Checks t) {
        for (int n = 1; n <= 4; n++) {
            String row = "r" + repeated("+16", n + 2);
            String head = "N" + n + "1000";
            // a row that is missing, a row too many, a number that is missing, and a number too many
            position(t, head + repeated(row, n - 1) + "o", 6 + (n - 1) * row.length());
            position(t, head + repeated(row, n + 1), 6 + n * row.length());
            position(t, head + "r" + repeated("+16", n + 1) + (n == 1 ? "o" : "r"), 6 + row.length() - 3);
            position(t, head + repeated(row, n) + "+", 6 + n * row.length());
            systemText(t, head + repeated(row, n) + "o" + repeated("+01", n) + "01");
        }
        t.run("plant(N31000r+01+02+03+04+05r-06-07-08-09-10r+11+12+13+14+15o+01+00+0001) = 3",
            "coefficient(0, 0, 0) = 1; coefficient(0, 0, 1) = 2; coefficient(0, 0, 2) = 3; coefficient(1, 0, 0) = 4",
            "coefficient(2, 0, 0) = 5; coefficient(0, 1, 0) = -6; coefficient(0, 1, 1) = -7; coefficient(0, 1, 2) = -8",
            "coefficient(1, 1, 0) = -9; coefficient(2, 1, 0) = -10; coefficient(0, 2, 0) = 11; coefficient(0, 2, 1) = 12",
            "coefficient(0, 2, 2) = 13; coefficient(1, 2, 0) = 14; coefficient(2, 2, 0) = 15");
    }

    @Holds(promise = {4, 5}, in = "TEXT", sentence = "then, for each output k, the letter o, n numbers (C(k, 0) and so on),"
        + " and two digits for the quantum, 01 to 99;")
    static void rowsOfTheOutputs(Checks t) {
        for (int p = 1; p <= 3; p++) {
            String head = "N2" + p + "000r+16+00+01+00r+00+16+00+00";
            String row = "o+01-0101";
            position(t, head + repeated(row, p - 1), head.length() + (p - 1) * row.length());
            position(t, head + repeated(row, p - 1) + "g", head.length() + (p - 1) * row.length());
            systemText(t, head + repeated(row, p));
            position(t, head + repeated(row, p + 1), head.length() + p * row.length());
            position(t, head + "o+0101", head.length() + 4);
            position(t, head + "o+01-01+01", head.length() + 7);
        }
        position(t, "N11000r+16+01+00o+0100", 21);
        position(t, "N11000r+16+01+00o+01-1", 20);
        position(t, "N11000r+16+01+00o+010", 21);
        position(t, "N12000r+16+01+00o+0100o+0100", 21);
        for (String quantum : new String[] {"01", "09", "10", "90", "99"}) {
            systemText(t, "N11000r+16+01+00o+01" + quantum);
        }
        t.run("plant(N23000r+16+00+01+00r+00+16+00+00o+01-0299o+03+0410o-05+0601) = 2; coefficient(3, 0, 0) = 1",
            "coefficient(3, 0, 1) = -2; coefficient(4, 0, 0) = 99; coefficient(3, 1, 0) = 3; coefficient(3, 1, 1) = 4",
            "coefficient(4, 1, 0) = 10; coefficient(3, 2, 0) = -5; coefficient(3, 2, 1) = 6; coefficient(4, 2, 0) = 1");
    }

    @Holds(promise = {4, 5}, in = "TEXT", sentence = "then any number of gains, each of which is the letter g, a digit for"
        + " the state, a digit for the output, and a number.")
    static void gains(Checks t) {
        systemText(t, PLAIN);
        position(t, PLAIN + "g", 23);
        position(t, PLAIN + "g0", 24);
        position(t, PLAIN + "g00", 25);
        position(t, PLAIN + "g00+", 26);
        position(t, PLAIN + "g00+0", 27);
        systemText(t, PLAIN + "g00+05");
        systemText(t, PLAIN + "g00+05g00-99");
        position(t, PLAIN + "g00+05g", 29);
        position(t, PLAIN + "g00+05r", 28);
        position(t, PLAIN + "G00+05", 22);
        position(t, PLAIN + "r", 22);
        position(t, PLAIN + "o+0101", 22);
        position(t, PLAIN + PLAIN, 22);
        position(t, PLAIN + "g+00", 23);
        position(t, PLAIN + "g0+00", 24);
        t.run("plant(N43000r+16+00+00+00+00+00r+00+16+00+00+00+00r+00+00+16+00+00+00r+00+00+00+16+00+00o+01+00+00+0001"
            + "o+01+00+00+0001o+01+00+00+0001g32-99g00+01g31+99) = 4; coefficient(5, 3, 2) = -99; coefficient(5, 0, 0) = 1",
            "coefficient(5, 3, 1) = 99; coefficient(5, 2, 2) = 0");
    }

    /** The document does not say it in so many words: a state or an output that does not exist has no digit. */
    @Holds(promise = {4, 5}, in = "TEXT", sentence = "a digit for the state, a digit for the output,")
    static void gainsOfWhatDoesNotExist(Checks t) {
        position(t, PLAIN + "g10+05", 23);
        position(t, PLAIN + "g01+05", 24);
        String wide = "N13000r+16+01+00o+0101o+0101o+0101";
        systemText(t, wide + "g02+01");
        position(t, wide + "g03+01", 36);
        position(t, wide + "g10+01", 35);
        String deep = "N31000r+16+00+00+00+00r+00+16+00+00+00r+00+00+16+00+00o+01+00+0001";
        systemText(t, deep + "g20+01");
        position(t, deep + "g30+01", deep.length() + 1);
        position(t, deep + "g21+01", deep.length() + 2);
    }

    @Holds(promise = {4, 5}, in = "TEXT", sentence = "A number is + or - and two digits.")
    static void numbers(Checks t) {
        for (String wrong : new String[] {"16", " 16", "*16", ",16", "/16", ".16"}) {
            position(t, "N11000r" + wrong, 7);
        }
        for (String wrong : new String[] {"++1", "+-1", "+/1", "+:1", "+ 1"}) {
            position(t, "N11000r" + wrong, 8);
        }
        for (String wrong : new String[] {"+1+", "+1/", "-1:", "-1 "}) {
            position(t, "N11000r" + wrong, 9);
        }
        position(t, "N11000r+100+01+00o+0101", 10);
        t.run("plant(N11000r+99-99+00o-0001); coefficient(0, 0, 0) = 99; coefficient(1, 0, 0) = -99; coefficient(2, 0, 0) = 0",
            "coefficient(3, 0, 0) = 0");
        t.run("plant(N11000r+09-10-01o+9001); coefficient(0, 0, 0) = 9; coefficient(1, 0, 0) = -10; coefficient(2, 0, 0) = -1",
            "coefficient(3, 0, 0) = 90");
    }

    @Holds(promise = 5, in = "TEXT", sentence = "A gain that is given again replaces the one given before.")
    static void gainGivenAgain(Checks t) {
        t.run("plant(" + PLAIN + "g00+05g00-07); coefficient(5, 0, 0) = -7");
        t.run("plant(" + PLAIN + "g00+05g00-07g00+00); coefficient(5, 0, 0) = 0");
        t.run("plant(N12000r+16+01+00o+0101o+0101g00+05g01+06g00+07); coefficient(5, 0, 0) = 7; coefficient(5, 0, 1) = 6");
    }

    @Holds(promise = 4, in = "TEXT", sentence = "There are no spaces.")
    static void spaces(Checks t) {
        for (int place = 0; place <= WHOLE.length(); place++) {
            position(t, WHOLE.substring(0, place) + " " + WHOLE.substring(place), place);
        }
    }

    @Holds(promise = 4, in = "TEXT", sentence = {"The text is read from left to right.", "The error position is the index of"
        + " the first character that these rules do not allow at its place;"})
    static void eachCharacterAtEachPlace(Checks t) {
        for (int place = 0; place < WHOLE.length(); place++) {
            for (char c = 0; c <= 255; c++) {
                // a second fault behind the first one changes nothing
                String text = WHOLE.substring(0, place) + c + WHOLE.substring(place + 1) + "?";
                boolean structure = KINDS.charAt(place) == 'n' || KINDS.charAt(place) == 'p';
                if (!allowed(KINDS.charAt(place), c)) {
                    position(t, text, place);
                } else if (!structure) {
                    position(t, text, WHOLE.length());
                }
            }
        }
        position(t, "??", 0);
        position(t, "N2107?r+01?", 5);
        // with one state or one output more, the next fault is where the rows end
        position(t, WHOLE.replace("N22", "N12"), 16);
        position(t, WHOLE.replace("N22", "N23"), 50);
        position(t, WHOLE.replace("N22", "N21"), 41);
        position(t, WHOLE.replace("N22", "N32"), 19);
    }

    private static boolean allowed(char kind, char c) {
        switch (kind) {
            case 'n':
                return c >= '1' && c <= '4';
            case 'p':
                return c >= '1' && c <= '3';
            case 'D':
                return c >= '0' && c <= '9';
            case 'Q':
                return c >= '1' && c <= '9';
            case 'I':
                return c == '0' || c == '1';
            case 'S':
                return c == '+' || c == '-';
            default:
                return c == kind;
        }
    }

    @Holds(promise = 4, in = "TEXT", sentence = "if the text ends too soon, it is the length of the text.")
    static void textsThatEndTooSoon(Checks t) {
        for (int length = 0; length < 50; length++) {
            position(t, WHOLE.substring(0, length), length);
        }
        systemText(t, WHOLE.substring(0, 50));
        for (int length = 51; length < 56; length++) {
            position(t, WHOLE.substring(0, length), length);
        }
        systemText(t, WHOLE.substring(0, 56));
    }

    // ---- promise 2

    @Holds(promise = 2, sentence = {"Appends a character to the text buffer.", "Returns the new length of the text."})
    static void appendedCharacters(Checks t) {
        t.run("append(78) = 1; append(50) = 2; errorPosition() = 2; append(52) = 3; errorPosition() = 2; clearText() = 3",
            "append(78) = 1");
        t.run("199 times append(97) = 199; append(97) = 200; clearText() = 200; append(97) = 1");
    }

    @Holds(promise = 2, sentence = "- `c`: character code, 0 to 255")
    static void leastAndGreatestCode(Checks t) {
        t.run("append(0) = 1; append(255) = 2; append(128) = 3; append(127) = 4; errorPosition() = 0");
        // a code is not that of a character of the rules only because its last bits are
        t.run("append(206) = 1; errorPosition() = 0");
    }

    @Holds(promise = 2, sentence = "Throws `IllegalArgumentException` if c is out of range")
    static void codeOutOfRange(Checks t) {
        t.run("append(78) = 1; append(-1) = throws IllegalArgumentException; append(256) = throws IllegalArgumentException",
            "append(334) = throws IllegalArgumentException; append(65614) = throws IllegalArgumentException",
            "append(-2147483648) = throws IllegalArgumentException; append(2147483647) = throws IllegalArgumentException",
            "append(49) = 2; clearText() = 2");
    }

    @Holds(promise = 2, sentence = "Throws `IllegalStateException` if the text already has 200 characters")
    static void fullText(Checks t) {
        t.run("199 times append(97) = 199; append(98) = 200; append(97) = throws IllegalStateException",
            "append(0) = throws IllegalStateException; append(255) = throws IllegalStateException; clearText() = 200",
            "append(97) = 1");
        t.run("200 times append(97) = 200; append(256) = throws IllegalArgumentException; append(-1) = throws IllegalArgumentException");
    }

    // ---- promise 3

    @Holds(promise = 3, sentence = {"Empties the text buffer.", "Returns the previous length of the text."})
    static void clearedText(Checks t) {
        t.run("clearText() = 0; append(78) = 1; append(49) = 2; clearText() = 2; errorPosition() = 0; clearText() = 0");
        t.run("200 times append(78) = 200; clearText() = 200; clearText() = 0");
        t.run("type(" + PLAIN + "); errorPosition() = NONE; clearText() = 22; errorPosition() = 0",
            "load() = throws IllegalStateException; type(" + PLAIN + ") = 22; load() = 1");
        // what stood in a longer text before does not come back
        t.run("type(" + PLAIN + "g00+05) = 28; clearText() = 28; type(" + PLAIN + ") = 22; load() = 1; coefficient(5, 0, 0) = 0");
        t.run("type(" + PLAIN + ") = 22; clearText() = 22; type(N11) = 3; errorPosition() = 3");
    }

    // ---- promise 4

    @Holds(promise = 4, sentence = {"Checks the text.", "Returns the error position of the text; NONE if it is a system text."})
    static void checkedText(Checks t) {
        t.run("errorPosition() = 0; type(" + PLAIN + ") = 22; errorPosition() = NONE; errorPosition() = NONE; append(103) = 23",
            "errorPosition() = 23; errorPosition() = 23; append(48); append(48); append(43); append(48) = 27",
            "errorPosition() = 27; append(55); errorPosition() = NONE; append(32); errorPosition() = 28");
        // a check does not load anything
        t.run("type(N21033r+01+02+03+04r+05+06+07+08o+09+1011g00+12); place(0, 5); step(1, 0); errorPosition() = NONE",
            "about(0) = 1; coefficient(0, 0, 0) = 16; coefficient(5, 0, 0) = 0; about(2) = 0; state(0, 0) = 6; step(1, 0)",
            "state(0, 0) = 7");
        t.run("type(N21033r+01+02+03+04r+05+0?); place(0, 5); step(1, 0); errorPosition() = 25; step(1, 0) = 2; state(0, 0) = 7");
    }

    // ---- promise 5

    @Holds(promise = 5, sentence = "Replaces the plant by that of the text, with its bound, its hold and its gains (0 where"
        + " none is given);")
    static void loadedPlant(Checks t) {
        t.run("plant(N22073r+01-02+03-04r+05+06-07+08o+09-1011o+12+1314g01-15g10+16g01+17) = 2; about(0) = 2; about(1) = 2",
            "about(2) = 7; about(3) = 3; coefficient(0, 0, 0) = 1; coefficient(0, 0, 1) = -2; coefficient(0, 1, 0) = 5",
            "coefficient(0, 1, 1) = 6; coefficient(1, 0, 0) = 3; coefficient(1, 1, 0) = -7; coefficient(2, 0, 0) = -4",
            "coefficient(2, 1, 0) = 8; coefficient(3, 0, 0) = 9; coefficient(3, 0, 1) = -10; coefficient(3, 1, 0) = 12",
            "coefficient(3, 1, 1) = 13; coefficient(4, 0, 0) = 11; coefficient(4, 1, 0) = 14; coefficient(5, 0, 0) = 0",
            "coefficient(5, 0, 1) = 17; coefficient(5, 1, 0) = 16; coefficient(5, 1, 1) = 0");
        // gains of the text before, and gains that were set, are 0 where none is given
        t.run("plant(" + PLAIN + "g00+05) = 1; coefficient(5, 0, 0) = 5; setGain(0, 0, 9) = 5; setHold(4); setBound(3)",
            "clearText(); plant(" + PLAIN + ") = 1; coefficient(5, 0, 0) = 0; about(2) = 0; about(3) = 0");
        // fewer states, and more again: nothing of the greater plant is left
        t.run("plant(" + WHOLE + ") = 2; clearText(); plant(N12000r+16+01+00o+0101o+0505) = 1; about(1) = 2",
            "coefficient(0, 0, 1) = throws IndexOutOfBoundsException; coefficient(5, 0, 1) = 0; state(0, 2) = 1000",
            "place(0, 10); step(1, 0); state(0, 0) = 11; read(1) = 11; width() = 0");
    }

    @Holds(promise = 5, sentence = "all else is as at first.")
    static void loadedStateIsAsAtFirst(Checks t) {
        String before = "plant(" + PLAIN + "g00+05); setBound(3); setHold(4); place(0, 7); read(0); step(5, 2); read(0); step(1, -3)";
        t.run(before + "; state(0, 0) = 13; load() = 1; state(0, 0) = 0; state(0, 1) = -1000; state(0, 2) = 1000; state(0, 3) = 0",
            "state(0, 4) = 0; about(2) = 0; about(3) = 0; about(4) = 0; coefficient(5, 0, 0) = 5; width() = 2000",
            "output(0, 0) = throws IllegalStateException; output(0, 1) = throws IllegalStateException",
            "unknown(true) = throws IllegalStateException; step(0, 0) = 1; state(0, 3) = 0; unknown(true) = 0");
    }

    @Holds(promise = 5, sentence = "Forgets all remembered states and empties both save slots.")
    static void loadForgets(Checks t) {
        t.run("type(" + PLAIN + "); step(1, 0); save(0); step(1, 0); save(1); load() = 1; undo() = throws IllegalStateException",
            "restore(0) = throws IllegalStateException; restore(1) = throws IllegalStateException; setHold(1) = 0; undo() = 0",
            "undo() = throws IllegalStateException; save(1) = 0; restore(0) = throws IllegalStateException; restore(1) = 0");
        t.run("type(" + PLAIN + "); 14 times step(1, 0); load() = 1; undo() = throws IllegalStateException",
            "15 times step(1, 0); undo() = 13");
    }

    @Holds(promise = 5, sentence = "Keeps the text.")
    static void loadKeepsTheText(Checks t) {
        t.run("plant(" + WHOLE + ") = 2; errorPosition() = NONE; load() = 2; append(63) = " + (WHOLE.length() + 1)
            + "; clearText() = " + (WHOLE.length() + 1));
        t.run("type(" + PLAIN + "?); load() = throws IllegalStateException; clearText() = 23");
    }

    @Holds(promise = 5, sentence = "Returns the number of states.")
    static void loadReturnsTheNumberOfStates(Checks t) {
        t.run("plant(" + PLAIN + ") = 1");
        t.run("plant(N21000r+16+00+01+00r+00+16+00+00o+01-0101) = 2");
        t.run("plant(N31000r+16+00+00+00+00r+00+16+00+00+00r+00+00+16+00+00o+01+00+0001) = 3");
        t.run("plant(N43000r+16+00+00+00+00+00r+00+16+00+00+00+00r+00+00+16+00+00+00r+00+00+00+16+00+00o+01+00+00+0001"
            + "o+01+00+00+0001o+01+00+00+0001) = 4");
    }

    @Holds(promise = 5, sentence = "Throws `IllegalStateException` if the text is not a system text")
    static void loadOfAnotherText(Checks t) {
        t.run("load() = throws IllegalStateException");
        t.run("plant(N12053r+10+02+03o+0405o+0607) = 1; step(1, 0); save(0); step(1, 0); append(103)",
            "load() = throws IllegalStateException; about(1) = 2; about(2) = 5; about(4) = 2; coefficient(0, 0, 0) = 10",
            "coefficient(4, 1, 0) = 7; undo() = 1; undo() = 0; restore(0) = 1; clearText() = 29");
        for (int length = 0; length < PLAIN.length(); length++) {
            t.run("type(" + PLAIN.substring(0, length) + "); setHold(2); load() = throws IllegalStateException");
        }
        t.run("type(N21055r+01+02+03+04r+05+06+07+08o+09+1011?); place(0, 3); step(1, 0); save(1)",
            "load() = throws IllegalStateException; step(1, 0) = 2; state(0, 0) = 5; undo() = 2");
    }
}
