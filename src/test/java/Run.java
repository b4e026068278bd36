import java.lang.reflect.InvocationTargetException;
import java.lang.reflect.Method;
import java.util.ArrayList;
import java.util.HashMap;
import java.util.List;
import java.util.Map;
import java.util.Set;
import java.util.regex.Matcher;
import java.util.regex.Pattern;

/**
 * A run of calls on a new object, written as in the document's examples: "step(5, 0) = 1; state(0, 0) = 5".
 * Besides the calls of the face there are "3 times step(1, 0) = 3" (the answer is that of the last call),
 * "type(N11)", which appends the characters, and "plant(N11..)", which appends them and loads the text. A call
 * without an answer must only not throw.
 */
final class Run {
    /** An object is used for at most 512 calls; so many are left for looking at it when the run is over. */
    private static final int MOST_CALLS = 300;
    private static final Pattern FORM = Pattern.compile("(?:(\\d+) times )?(\\w+)\\((.*?)\\)(?: = (.+))?");
    private static final Set<String> CHANGING = Set.of("type", "plant", "append", "clearText", "load", "place",
        "step", "read", "shave", "setGain", "setHold", "setBound", "undo", "save", "restore");
    private static final Map<String, Method> FACE = new HashMap<>();

    static {
        for (Method m : StateObserver.class.getMethods()) {
            FACE.put(m.getName(), m);
        }
    }

    private static final class Call {
        final String text;
        final int times;
        final String name;
        final String arguments;
        final String due;

        Call(String text) {
            Matcher m = FORM.matcher(text);
            if (!m.matches()) {
                throw new IllegalArgumentException("not a call: " + text);
            }
            this.text = text;
            times = m.group(1) == null ? 1 : Integer.parseInt(m.group(1));
            name = m.group(2);
            arguments = m.group(3);
            due = m.group(4) == null ? "" : m.group(4).equals("NONE") ? "-9" : m.group(4);
        }

        int size() {
            return times * (name.equals("type") || name.equals("plant") ? arguments.length() + 1 : 1);
        }
    }

    private final List<Call> all = new ArrayList<>();
    /** What is left of the run without the calls that change nothing: questions, and calls that are refused. */
    private final List<Call> changing = new ArrayList<>();
    private int size = 0;

    int calls() {
        return size;
    }

    /** All that can be seen of the state of an object after a run. */
    static String seenAfter(String script) {
        return look(after(callsOf(script)));
    }

    private static List<Call> callsOf(String script) {
        List<Call> calls = new ArrayList<>();
        for (String part : script.split(";")) {
            if (!part.isBlank()) {
                calls.add(new Call(part.strip()));
            }
        }
        return calls;
    }

    /** Makes the calls; returns what is wrong, or the empty text. */
    String go(String script) {
        all.addAll(callsOf(script));
        StateObserver x = new StateObserver();
        for (Call c : all) {
            size += c.size();
            if (size > MOST_CALLS) {
                return "the run is too long";
            }
            String got = answer(x, c);
            boolean refused = got.startsWith("throws ");
            if (c.due.isEmpty() ? refused : !got.equals(c.due)) {
                return c.text + " answered " + got;
            }
            if (CHANGING.contains(c.name) && !refused) {
                changing.add(c);
            }
        }
        return changing.size() == all.size() || traces(all).equals(traces(changing)) ? ""
            : "a question or a refused call changed something";
    }

    private static String answer(StateObserver x, Call c) {
        String answer = "";
        for (int t = 0; t < c.times; t++) {
            boolean typing = c.name.equals("type") || c.name.equals("plant");
            answer = typing ? typed(x, c.arguments) : answer(x, c.name, c.arguments);
            answer = c.name.equals("plant") ? answer(x, "load", "") : answer;
        }
        return answer;
    }

    private static String typed(StateObserver x, String text) {
        String answer = "";
        for (int i = 0; i < text.length(); i++) {
            answer = answer(x, "append", Integer.toString(text.charAt(i)));
        }
        return answer;
    }

    private static String answer(StateObserver x, String name, String arguments) {
        Method m = FACE.get(name);
        Class<?>[] types = m.getParameterTypes();
        String[] parts = arguments.isEmpty() ? new String[0] : arguments.split(", ");
        Object[] values = new Object[types.length];
        for (int i = 0; i < types.length; i++) {
            values[i] = types[i] == boolean.class ? (Object) parts[i].equals("true")
                : types[i] == long.class ? (Object) Long.parseLong(parts[i].replace("L", ""))
                : (Object) Integer.parseInt(parts[i]);
        }
        try {
            return m.invoke(x, values).toString();
        } catch (InvocationTargetException e) {
            return "throws " + e.getCause().getClass().getSimpleName();
        } catch (IllegalAccessException e) {
            return "is not public";
        }
    }

    private static StateObserver after(List<Call> calls) {
        StateObserver x = new StateObserver();
        for (Call c : calls) {
            answer(x, c);
        }
        return x;
    }

    /** All that can be seen of an object after a run: its state, the remembered states, the slots, and the text. */
    private static List<String> traces(List<Call> calls) {
        List<String> traces = new ArrayList<>();
        String last = "";
        for (int undone = 0; undone <= 15 && !last.startsWith("throws "); undone++) {
            StateObserver x = after(calls);
            for (int t = 0; t < undone; t++) {
                last = answer(x, "undo", "");
            }
            traces.add(last + look(x));
        }
        for (int slot = 0; slot < 2; slot++) {
            StateObserver x = after(calls);
            traces.add(answer(x, "restore", Integer.toString(slot)) + look(x));
        }
        StateObserver x = after(calls);
        traces.add(answer(x, "errorPosition", "") + " " + answer(x, "clearText", ""));
        return traces;
    }

    private static String look(StateObserver x) {
        StringBuilder seen = new StringBuilder();
        for (int what = 0; what <= 4; what++) {
            seen.append(answer(x, "about", Integer.toString(what))).append(' ');
        }
        for (int i = 0; i < 4; i++) {
            for (int j = 0; j < 4; j++) {
                for (int what = 0; what <= 5; what++) {
                    seen.append(answer(x, "coefficient", what + ", " + i + ", " + j)).append(' ');
                }
            }
            for (int what = 0; what <= 4; what++) {
                seen.append(answer(x, "state", i + ", " + what)).append(' ');
                seen.append(answer(x, "output", i + ", " + what)).append(' ');
            }
        }
        return seen + answer(x, "unknown", "false") + " " + answer(x, "unknown", "true");
    }
}
