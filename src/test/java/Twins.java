import java.lang.reflect.InvocationTargetException;
import java.lang.reflect.Method;
import java.util.Arrays;
import java.util.HashMap;
import java.util.Map;

/** The class and the oracle side by side: each call goes to both, and both must answer alike. */
final class Twins {
    private static final Map<String, Method> OF_CLASS = publicMethods();
    private static final Map<String, Method> OF_ORACLE = new HashMap<>();

    private final TwoLaws laws = new TwoLaws();
    private final Oracle oracle = new Oracle();
    private int calls = 0;

    private static Map<String, Method> publicMethods() {
        Map<String, Method> methods = new HashMap<>();
        for (Method m : TwoLaws.class.getDeclaredMethods()) {
            if (java.lang.reflect.Modifier.isPublic(m.getModifiers())) {
                methods.put(m.getName(), m);
            }
        }
        return methods;
    }

    int calls() {
        return calls;
    }

    void call(String name, int... args) {
        Method m = OF_CLASS.get(name);
        Object[] boxed = new Object[args.length];
        for (int k = 0; k < args.length; k++) {
            if (m.getParameterTypes()[k] == long.class) {
                boxed[k] = (long) args[k];
            } else {
                boxed[k] = args[k];
            }
        }
        calls++;
        Due.be(name + Arrays.toString(args), answer(ofOracle(m), oracle, boxed), answer(m, laws, boxed));
    }

    void type(String text) {
        calls += text.length();
        for (char c : text.toCharArray()) {
            laws.type(c, 1);
            oracle.type(c, 1);
        }
    }

    private static Method ofOracle(Method m) {
        return OF_ORACLE.computeIfAbsent(m.getName(), name -> {
            try {
                return Oracle.class.getDeclaredMethod(name, m.getParameterTypes());
            } catch (NoSuchMethodException e) {
                throw new IllegalStateException(e);
            }
        });
    }

    private static int answer(Method m, Object on, Object[] args) {
        try {
            return (Integer) m.invoke(on, args);
        } catch (IllegalAccessException | InvocationTargetException e) {
            throw new IllegalStateException(m.getName() + Arrays.toString(args), e);
        }
    }
}
