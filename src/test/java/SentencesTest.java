import java.io.IOException;
import java.lang.reflect.Method;
import java.nio.file.Files;
import java.nio.file.Path;
import java.util.ArrayList;
import java.util.LinkedHashMap;
import java.util.List;
import java.util.Map;
import java.util.regex.Matcher;
import java.util.regex.Pattern;

/**
 * Holds the tests against the document: each sentence that a test names stands there, each promise has a test, and
 * no word of the description and of the promises is without a test that names its sentence.
 */
public final class SentencesTest {
    private static final Class<?>[] TESTS = {PlantTest.class, IntervalsTest.class, EstimatorTest.class, TextTest.class,
        SystemTest.class, ActionsTest.class, QuestionsTest.class, ObservabilityTest.class, ScriptsTest.class,
        ExamplesTest.class, FaceTest.class};
    private static final int PROMISES = 33;
    private static final Pattern PROMISE = Pattern.compile("## (Promise \\d+): .*");
    private static final Pattern SIGNATURE = Pattern.compile("`[\\w ]+\\(.*`");

    /** A part of the document: its words, and which of their characters are spoken for. */
    private static final class Part {
        final StringBuilder text = new StringBuilder();
        final StringBuilder held = new StringBuilder();

        void add(String line, boolean isHeld) {
            String words = (text.length() == 0 ? "" : " ") + line;
            text.append(words);
            held.append((isHeld ? "x" : " ").repeat(words.length()));
        }

        boolean hold(String sentence) {
            int at = text.indexOf(sentence);
            boolean found = at >= 0;
            while (at >= 0) {
                held.replace(at, at + sentence.length(), "x".repeat(sentence.length()));
                at = text.indexOf(sentence, at + 1);
            }
            return found;
        }

        String left() {
            StringBuilder left = new StringBuilder();
            for (int i = 0; i < text.length(); i++) {
                left.append(held.charAt(i) == 'x' ? ' ' : text.charAt(i));
            }
            return left.toString().strip();
        }
    }

    private final Map<String, Part> parts = new LinkedHashMap<>();
    private int wrong = 0;

    public static void main(String[] args) throws IOException {
        SentencesTest t = new SentencesTest();
        t.read(Files.readAllLines(Path.of(args.length > 0 ? args[0] : "../shared/DOC.md")));
        int tests = t.holdTests();
        t.lookForTheRest();
        System.out.println(tests + " tests name their sentences, " + t.wrong + " wrong");
        System.exit(t.wrong == 0 ? 0 : 1);
    }

    private void read(List<String> lines) {
        String part = "";
        for (String line : lines) {
            Matcher promise = PROMISE.matcher(line);
            boolean heading = line.startsWith("#") || line.matches("[A-Z ]+");
            if (promise.matches()) {
                part = promise.group(1);
            } else if (heading) {
                part = line.replaceFirst("^#+ ", "");
            } else if (line.startsWith("Examples:")) {
                part = "Examples";
            } else if (line.equals("The constants:")) {
                part = "The constants";
            } else if (line.startsWith("The constructor and the methods follow")) {
                part = "The end of the description";
            }
            if (!heading && !line.isBlank()) {
                boolean isHeld = line.startsWith("----") || SIGNATURE.matcher(line).matches();
                parts.computeIfAbsent(part, p -> new Part()).add(line.strip(), isHeld);
            }
        }
    }

    private int holdTests() {
        List<Integer> promises = new ArrayList<>();
        int tests = 0;
        for (Class<?> type : TESTS) {
            for (Method m : type.getDeclaredMethods()) {
                boolean looksLikeATest = m.getParameterCount() == 1 && m.getParameterTypes()[0] == Checks.class;
                if (looksLikeATest && m.getAnnotation(Holds.class) == null) {
                    complain(m + " names no sentence");
                }
            }
            for (Method m : Checks.testsOf(type)) {
                tests++;
                Holds h = m.getAnnotation(Holds.class);
                for (int promise : h.promise()) {
                    promises.add(promise);
                }
                Part part = parts.get(h.in().isEmpty() ? "Promise " + h.promise()[0] : h.in());
                for (String sentence : h.sentence()) {
                    if (part == null || !part.hold(sentence)) {
                        complain("the document does not say it there: " + Checks.described(m) + "\n  namely: " + sentence);
                    }
                }
            }
        }
        for (int promise = 1; promise <= PROMISES; promise++) {
            if (!promises.contains(promise)) {
                complain("no test names promise " + promise);
            }
        }
        return tests;
    }

    private void lookForTheRest() {
        for (Map.Entry<String, Part> e : parts.entrySet()) {
            String name = e.getKey();
            boolean saysNothing = name.equals("The public face") || name.equals("Not promised")
                || name.equals("The end of the description");
            String left = e.getValue().left();
            if (!saysNothing && !left.isEmpty()) {
                complain("no test names this of " + name + ": " + left);
            }
        }
    }

    private void complain(String what) {
        wrong++;
        System.out.println(what);
    }
}
