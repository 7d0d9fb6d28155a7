import java.lang.reflect.InvocationTargetException;
import java.lang.reflect.Method;
import java.util.HashMap;
import java.util.List;
import java.util.Map;

/**
 * An EndlessTug that is asked by a text, as in "slack(0)=3 now(5)=0 slack(100)=BEYOND"; a call without an answer is
 * made, and its answer left alone. It minds that the document promises 512 calls and no more.
 */
final class Tug {
    private static final List<String> FINDINGS = List.of("BEYOND", "FULL", "KIND", "NONE", "STATE", "MISSING", "SIZE");
    private static final Map<String, Long> NAMES = Map.of(
        "MIN", (long) Integer.MIN_VALUE, "MAX", (long) Integer.MAX_VALUE, "LEAST", Long.MIN_VALUE, "MOST", Long.MAX_VALUE);
    private static final Map<String, Method> METHODS = methods();
    private static final int MOST_CALLS = 512;

    static int asked;
    static int wrong;
    /** What is being tested, for those that read of a wrong answer. */
    static String about = "";

    private final EndlessTug x = new EndlessTug();
    private int callsLeft = MOST_CALLS;

    private static Map<String, Method> methods() {
        Map<String, Method> all = new HashMap<>();
        for (Method method : EndlessTug.class.getDeclaredMethods()) {
            if (java.lang.reflect.Modifier.isPublic(method.getModifiers())) {
                all.put(method.getName(), method);
            }
        }
        return all;
    }

    /** A new object to which a text has been told. */
    static Tug told(String text) {
        Tug tug = new Tug();
        if (tug.tell(text) < 0) {
            fail("a text that should be right: " + text);
        }
        return tug;
    }

    /** A new object on a DAY, nobody there. */
    static Tug onDay(int day) {
        Tug tug = new Tug();
        for (int left = day; left > 0; left -= 100) {
            tug.ask("days(" + Math.min(100, left) + ")");
        }
        return tug;
    }

    /** For what can be reached by more calls alone than the document promises. */
    Tug beyondItsCalls() {
        callsLeft = 1000000;
        return this;
    }

    Tug feed(String text) {
        int at = 0;
        while (at < text.length()) {
            int n = Math.min(4, text.length() - at);
            int bytes = 0;
            for (int i = 0; i < n; i++) {
                bytes = bytes << 8 | text.charAt(at + i);
            }
            ask("feed(" + bytes + "," + n + ")");
            at += n;
        }
        return this;
    }

    long tell(String text) {
        feed(text);
        return ask("green()");
    }

    Tug due(String run) {
        for (String step : run.trim().split("\\s+")) {
            int at = step.indexOf('=');
            if (at < 0) {
                ask(step);
            } else {
                due(step.substring(0, at), number(step.substring(at + 1)));
            }
        }
        return this;
    }

    void due(String call, long want) {
        due(call, ask(call), want);
    }

    static void due(String what, long got, long want) {
        asked++;
        if (got != want) {
            fail(what + " answered " + named(got) + ", due is " + named(want));
        }
    }

    static void fail(String what) {
        wrong++;
        System.out.println(about + ": " + what);
    }

    long ask(String call) {
        callsLeft--;
        if (callsLeft < 0) {
            fail("a test of more calls than the document promises: " + call);
        }
        int open = call.indexOf('(');
        Method method = METHODS.get(call.substring(0, open));
        String inside = call.substring(open + 1, call.length() - 1);
        String[] texts = inside.isEmpty() ? new String[0] : inside.split(",");
        Object[] values = new Object[texts.length];
        for (int i = 0; i < texts.length; i++) {
            long v = number(texts[i]);
            if (method.getParameterTypes()[i] == long.class) {
                values[i] = v;
            } else {
                values[i] = Math.toIntExact(v);
            }
        }
        try {
            return ((Number) method.invoke(x, values)).longValue();
        } catch (InvocationTargetException thrown) {
            fail(call + " threw " + thrown.getCause());
            return 0;
        } catch (IllegalAccessException closed) {
            throw new IllegalStateException(closed);
        }
    }

    static long number(String text) {
        if (FINDINGS.contains(text)) {
            return -1000000001 - FINDINGS.indexOf(text);
        }
        return NAMES.containsKey(text) ? NAMES.get(text) : Long.parseLong(text);
    }

    static String named(long answer) {
        long which = -1000000001 - answer;
        return which >= 0 && which < FINDINGS.size() ? FINDINGS.get((int) which) : Long.toString(answer);
    }

    static void end() {
        System.out.println(asked + " answers asked, " + wrong + " wrong");
        if (wrong != 0) {
            System.exit(1);
        }
    }
}
