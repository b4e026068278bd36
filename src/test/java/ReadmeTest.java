import java.io.IOException;
import java.io.UncheckedIOException;
import java.lang.reflect.Method;
import java.nio.file.Files;
import java.nio.file.Path;
import java.util.ArrayList;
import java.util.List;
import java.util.Set;
import java.util.TreeSet;
import java.util.regex.Matcher;
import java.util.regex.Pattern;
import java.util.stream.Stream;

/**
 * README.md as it stands: its calls are answered as it says, and it names every method and every test. These tests
 * hold no sentence of the document.
 */
public final class ReadmeTest {
    private static final Pattern CODE = Pattern.compile("```java\n(.*?)```", Pattern.DOTALL);
    private static final Pattern TYPED = Pattern.compile("for \\(char c : \"(.*)\"\\.toCharArray\\(\\)\\) \\{");
    private static final Pattern CALL = Pattern.compile("x\\.(\\w+\\(.*\\)); +// ([^:]+)(?:: .*)?");
    private static final Set<String> OTHER_LINES =
        Set.of("StateObserver x = new StateObserver();", "    x.append(c);", "}");
    private static final Pattern TEST = Pattern.compile("`(\\w+Test)`");

    private static String readme() {
        try {
            return Files.readString(Path.of("README.md"));
        } catch (IOException e) {
            throw new UncheckedIOException(e);
        }
    }

    public static void main(String[] args) {
        Checks.main(ReadmeTest.class);
    }

    @Holds(promise = {}, sentence = {})
    static void calls(Checks t) {
        Matcher code = CODE.matcher(readme());
        int runs = 0;
        while (code.find()) {
            t.run(runOf(code.group(1), t));
            runs++;
        }
        t.due("the number of runs", runs, 2);
    }

    private static String runOf(String code, Checks t) {
        List<String> calls = new ArrayList<>();
        for (String line : code.split("\n")) {
            Matcher typed = TYPED.matcher(line);
            Matcher call = CALL.matcher(line);
            if (typed.matches()) {
                calls.add("type(" + typed.group(1) + ")");
            } else if (call.matches()) {
                calls.add(call.group(1) + " = " + call.group(2));
            } else {
                t.due("the line " + line + " is known", OTHER_LINES.contains(line), true);
            }
        }
        return String.join("; ", calls);
    }

    @Holds(promise = {}, sentence = {})
    static void namesOfMethods(Checks t) {
        String use = readme().replaceFirst("(?s)## Tests.*", "");
        for (Method m : StateObserver.class.getDeclaredMethods()) {
            if (FaceTest.isOfTheFace(m.getName(), m.getParameterCount())) {
                t.due(m.getName() + " is named", use.contains("`" + m.getName() + "`"), true);
            }
        }
    }

    @Holds(promise = {}, sentence = {})
    static void namesOfTests(Checks t) throws IOException {
        Set<String> named = new TreeSet<>();
        Matcher names = TEST.matcher(readme());
        while (names.find()) {
            named.add(names.group(1));
        }
        Set<String> tests = new TreeSet<>();
        try (Stream<Path> files = Files.list(Path.of("src/test/java"))) {
            files.map(f -> f.getFileName().toString()).filter(f -> f.endsWith("Test.java"))
                .forEach(f -> tests.add(f.replace(".java", "")));
        }
        t.due("the tests that are named", String.join(" ", named), String.join(" ", tests));
    }
}
