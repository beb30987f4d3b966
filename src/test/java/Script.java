import java.lang.reflect.InvocationTargetException;
import java.lang.reflect.Method;
import java.lang.reflect.Modifier;
import java.util.HashMap;
import java.util.Map;
import java.util.TreeMap;

/**
 * Runs of calls that are told as text, with the answers that are due: "bind 0 1 -1 = 0; undo 0 1 = 0".
 * A call without an answer is only done; "type v+1" feeds these signs to THE TAPE.
 */
final class Script {
    /** The document promises nothing beyond. */
    private static final int MOST_CALLS = 512;
    private static final Map<String, Integer> PARAMETERS = new HashMap<>();
    private static final Map<String, Integer> WORDS = Map.of("BEYOND", Due.BEYOND, "NONE", Due.NONE, "STATE", Due.STATE,
        "FULL", Due.FULL, "KIND", Due.KIND, "MIN", Integer.MIN_VALUE, "MAX", Integer.MAX_VALUE);

    static {
        for (Method m : CrossedKnots.class.getDeclaredMethods()) {
            if (Modifier.isPublic(m.getModifiers())) {
                PARAMETERS.put(m.getName(), m.getParameterCount());
            }
        }
    }

    private Script() {
    }

    /** On a new object. */
    static CrossedKnots run(String calls) {
        CrossedKnots x = new CrossedKnots();
        on(x, calls);
        return x;
    }

    static void on(CrossedKnots x, String calls) {
        String[] all = calls.split(";");
        if (all.length > MOST_CALLS) {
            throw new IllegalArgumentException("more calls than are promised: " + all.length);
        }
        for (String call : all) {
            if (!call.isBlank()) {
                step(x, call.trim(), calls);
            }
        }
    }

    private static void step(CrossedKnots x, String call, String calls) {
        String[] sides = call.split(" = ");
        int got = answer(x, sides[0].trim());
        if (sides.length > 1) {
            Due.due(sides[0] + " in \"" + calls + "\"", got, number(sides[1].trim()));
        }
    }

    static int answer(CrossedKnots x, String call) {
        String[] words = call.split(" ");
        if (words[0].equals("type")) {
            Due.feed(x, words[1]);
            return x.count(6);
        }
        Integer parameters = PARAMETERS.get(words[0]);
        if (parameters == null || parameters != words.length - 1) {
            throw new IllegalArgumentException("no such call: " + call);
        }
        long[] a = new long[5];
        for (int i = 1; i < words.length; i++) {
            a[i - 1] = number(words[i]);
        }
        return CallTable.onProgram(x, words[0], a);
    }

    private static long number(String word) {
        Integer known = WORDS.get(word);
        return known != null ? known : Long.parseLong(word);
    }

    /** Every static method without parameters, but for those that are private; by name. */
    static void runAll(Class<?> tests) {
        Map<String, Method> all = new TreeMap<>();
        for (Method m : tests.getDeclaredMethods()) {
            int kind = m.getModifiers();
            if (Modifier.isStatic(kind) && !Modifier.isPrivate(kind) && m.getParameterCount() == 0) {
                all.put(m.getName(), m);
            }
        }
        for (Method m : all.values()) {
            try {
                m.invoke(null);
            } catch (IllegalAccessException | InvocationTargetException e) {
                throw new IllegalStateException(tests.getName() + "." + m.getName(), e);
            }
        }
        Due.end(tests.getName());
    }
}
