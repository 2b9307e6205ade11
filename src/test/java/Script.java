import java.lang.reflect.InvocationTargetException;
import java.lang.reflect.Method;
import java.lang.reflect.Modifier;
import java.util.HashMap;
import java.util.Map;
import java.util.regex.Matcher;
import java.util.regex.Pattern;

/**
 * Runs of calls written as text: "error(0) = 1; row(4, 0, 8) = 0". An answer is a number, a constant's name, or a constant's
 * name less 1000000; without "=" any answer is right. A number may be a law by its parts, [3 -2], or LEAST or MOST, the
 * machine's least and greatest int; type('x1u2y3') types a text of any length, its answer is the last one's.
 */
final class Script {
    /** A ; that does not stand in a typed text. */
    private static final String BETWEEN_CALLS = ";(?=(?:[^']*'[^']*')*[^']*$)";
    private static final Pattern CALL = Pattern.compile("(\\w+)\\((.*)\\)(?: = (\\S+))?");
    private static final Pattern LAW = Pattern.compile("\\[(-?\\d+) (-?\\d+)\\]");
    private static final Map<String, Method> FACE = face();
    private static final Map<String, Integer> NAMES = Map.of("BAD", -1, "NOT", -2, "FULL", -3, "NONE", -4, "NULL", -11, "CAST", -12,
        "INDEX", -13, "SIZE", -14, "LEAST", Integer.MIN_VALUE, "MOST", Integer.MAX_VALUE);
    private static final int MOST_CALLS = 512;

    private Script() {
    }

    private static Map<String, Method> face() {
        Map<String, Method> face = new HashMap<>();
        for (Method m : TwoLaws.class.getDeclaredMethods()) {
            if (Modifier.isPublic(m.getModifiers())) {
                face.put(m.getName(), m);
            }
        }
        return face;
    }

    /** The calls on a new object. */
    static void run(String name, String calls) {
        run(name, new TwoLaws(), calls);
    }

    static void run(String name, TwoLaws t, String calls) {
        int made = 0;
        String plain = LAW.matcher(calls).replaceAll(law -> "" + Due.law(Integer.parseInt(law.group(1)), Integer.parseInt(law.group(2))));
        for (String call : plain.split(BETWEEN_CALLS)) {
            Matcher m = CALL.matcher(call.trim());
            if (!m.matches()) {
                throw new IllegalArgumentException(name + ": no call: " + call);
            }
            int got = answer(t, m.group(1), m.group(2));
            if (m.group(3) != null) {
                Due.be(name + ": " + call.trim() + " in [" + calls + "]", number(m.group(3)), got);
            }
            made++;
        }
        Due.hold(name + ": " + made + " calls are not too many", made <= MOST_CALLS);
    }

    private static int answer(TwoLaws t, String name, String args) {
        if (args.startsWith("'")) {
            return Due.typed(t, args.substring(1, args.length() - 1));
        }
        Method m = FACE.get(name);
        String[] parts = args.isBlank() ? new String[0] : args.split(",");
        if (m == null || m.getParameterCount() != parts.length) {
            throw new IllegalArgumentException("no such call: " + name + "(" + args + ")");
        }
        Object[] values = new Object[parts.length];
        for (int k = 0; k < parts.length; k++) {
            values[k] = m.getParameterTypes()[k] == long.class ? (Object) longNumber(parts[k].trim()) : (Object) number(parts[k]);
        }
        try {
            return (Integer) m.invoke(t, values);
        } catch (IllegalAccessException | InvocationTargetException e) {
            throw new IllegalStateException(name + "(" + args + ")", e);
        }
    }

    /** As Java writes it, also 0x7831L. */
    private static long longNumber(String text) {
        return text.endsWith("L") ? Long.decode(text.substring(0, text.length() - 1)) : number(text);
    }

    private static int number(String text) {
        String word = text.trim();
        if (word.endsWith("-1000000") && NAMES.containsKey(word.substring(0, word.length() - 8))) {
            return NAMES.get(word.substring(0, word.length() - 8)) - 1000000;
        }
        return NAMES.containsKey(word) ? NAMES.get(word) : Integer.parseInt(word);
    }
}
