import java.lang.reflect.InvocationTargetException;
import java.lang.reflect.Method;
import java.lang.reflect.Modifier;
import java.util.ArrayList;
import java.util.Comparator;
import java.util.List;

/** Makes the tests of a class, which are its static methods with the mark Holds, and collects what is wrong. */
final class Checks {
    private int calls = 0;
    private int wrong = 0;
    private int callsOfTest = 0;
    private String test = "";

    /** Makes all tests of a class; ends with exit code 1 if one fails. */
    static void main(Class<?> type) {
        Checks t = new Checks();
        List<Method> tests = testsOf(type);
        for (Method m : tests) {
            t.make(m);
        }
        System.out.println(tests.size() + " tests, " + t.calls + " checks, " + t.wrong + " wrong");
        System.exit(t.wrong != 0 || tests.isEmpty() ? 1 : 0);
    }

    /** Makes an observer with a text in its buffer. */
    static StateObserver written(String text) {
        StateObserver x = new StateObserver();
        for (int i = 0; i < text.length(); i++) {
            x.append(text.charAt(i));
        }
        return x;
    }

    static List<Method> testsOf(Class<?> type) {
        List<Method> tests = new ArrayList<>();
        for (Method m : type.getDeclaredMethods()) {
            if (m.getAnnotation(Holds.class) != null) {
                tests.add(m);
            }
        }
        tests.sort(Comparator.comparing(Method::getName));
        return tests;
    }

    /** The name of a test with the promises and the sentences that it holds. */
    static String described(Method m) {
        Holds h = m.getAnnotation(Holds.class);
        StringBuilder s = new StringBuilder(m.getDeclaringClass().getName()).append('.').append(m.getName());
        for (int promise : h.promise()) {
            s.append(", promise ").append(promise);
        }
        s.append(h.in().isEmpty() ? "" : ", " + h.in());
        for (String sentence : h.sentence()) {
            s.append("\n  \"").append(sentence).append('"');
        }
        return s.toString();
    }

    private void make(Method m) {
        test = described(m);
        callsOfTest = 0;
        Class<?>[] parameters = m.getParameterTypes();
        if (!Modifier.isStatic(m.getModifiers()) || parameters.length != 1 || parameters[0] != Checks.class) {
            complain("not a test");
            return;
        }
        try {
            m.invoke(null, this);
        } catch (InvocationTargetException e) {
            e.getCause().printStackTrace(System.out);
            complain("threw " + e.getCause());
        } catch (IllegalAccessException e) {
            complain("cannot be called");
        }
        if (callsOfTest == 0) {
            complain("checks nothing");
        }
    }

    /** Makes a run of calls on a new object; see Run for its form. */
    void run(String... parts) {
        String script = String.join("; ", parts);
        Run run = new Run();
        String fault = run.go(script);
        count(run.calls());
        if (!fault.isEmpty()) {
            complain(fault + "\n  in the run " + script);
        }
    }

    void due(String what, long got, long want) {
        due(what, Long.toString(got), Long.toString(want));
    }

    void due(String what, boolean got, boolean want) {
        due(what, Boolean.toString(got), Boolean.toString(want));
    }

    void due(String what, String got, String want) {
        count(1);
        if (!got.equals(want)) {
            complain(what + " is " + got + ", due is " + want);
        }
    }

    private void count(int more) {
        calls += more;
        callsOfTest += more;
    }

    private void complain(String what) {
        wrong++;
        System.out.println(test + "\n  " + what);
    }
}
