/** Collects what the calls of a test answer and compares it with what is due. */
final class Checks {
    private int calls = 0;
    private int wrong = 0;

    /** Makes an observer for the plant of a system text. */
    static StateObserver loaded(String text) {
        StateObserver x = written(text);
        x.load();
        return x;
    }

    /** Makes an observer with a text in its buffer. */
    static StateObserver written(String text) {
        StateObserver x = new StateObserver();
        for (int i = 0; i < text.length(); i++) {
            x.append(text.charAt(i));
        }
        return x;
    }

    void due(String call, long got, long want) {
        calls++;
        if (got != want) {
            complain(call + " answered " + got + ", due is " + want);
        }
    }

    void due(String call, boolean got, boolean want) {
        calls++;
        if (got != want) {
            complain(call + " answered " + got + ", due is " + want);
        }
    }

    void due(String call, String got, String want) {
        calls++;
        if (!got.equals(want)) {
            complain(call + " answered " + got + ", due is " + want);
        }
    }

    void index(String call, Runnable body) {
        throwing(call, IndexOutOfBoundsException.class, body);
    }

    void argument(String call, Runnable body) {
        throwing(call, IllegalArgumentException.class, body);
    }

    void state(String call, Runnable body) {
        throwing(call, IllegalStateException.class, body);
    }

    private void throwing(String call, Class<? extends RuntimeException> want, Runnable body) {
        calls++;
        try {
            body.run();
        } catch (RuntimeException e) {
            if (e.getClass() != want) {
                complain(call + " threw " + e + ", due is " + want.getName());
            }
            return;
        }
        complain(call + " threw nothing, due is " + want.getName());
    }

    private void complain(String what) {
        wrong++;
        System.out.println(what);
    }

    void finish() {
        System.out.println(calls + " calls, " + wrong + " wrong");
        if (wrong != 0 || calls == 0) {
            System.exit(1);
        }
    }
}
