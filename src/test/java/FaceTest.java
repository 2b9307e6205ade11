import java.lang.management.ManagementFactory;
import java.lang.reflect.Constructor;
import java.lang.reflect.Field;
import java.lang.reflect.Member;
import java.lang.reflect.Method;
import java.lang.reflect.Modifier;
import java.util.Arrays;
import java.util.Set;
import java.util.TreeSet;

/** The public face, and that calls make no objects. */
public final class FaceTest {
    private static final String[] FACE = {
        "row(int,int,int)", "gap(int,int)", "rows(int,int,int,int)", "type(long,int)", "text()", "told(int,int)", "clear()",
        "error(int)", "meets(int,int)", "lets(int,int)", "count(int)", "fewest()", "letGo(int,int)", "together(int,int)",
        "span(int,int,int,int)", "line(int,int,int)", "hours(int,int)", "wear(int,int,int)", "check(int,int,int)",
        "tries(int,int,int)", "best(int,int)", "apart(int,int,int)", "know(int)", "box(int,int)", "step(int)", "holds(int)",
        "brake(int,int,int,int)", "watch(int,int,int)", "sheet(int,int,int)", "drop(int)", "item(int,int,int,int)",
        "copy(int,int,int,int,int)"};
    private static final String[] CONSTANTS = {"BAD", "NOT", "FULL", "NONE", "NULL", "CAST", "INDEX", "SIZE"};
    /** Calls far beyond 512, so that what one call makes is not lost in what the machine makes by itself. */
    private static final int ROUNDS = 300;
    private static final long FEW_BYTES = 1_000;

    public static void main(String[] args) {
        face();
        constants();
        objects();
        Due.end();
    }

    private static boolean isOpen(Member m) {
        return !Modifier.isPrivate(m.getModifiers()) && !m.isSynthetic();
    }

    private static String signature(Method m) {
        StringBuilder text = new StringBuilder(m.getName()).append('(');
        for (Class<?> type : m.getParameterTypes()) {
            text.append(text.charAt(text.length() - 1) == '(' ? "" : ",").append(type.getName());
        }
        return text.append(')').toString();
    }

    private static void face() {
        Set<String> open = new TreeSet<>();
        for (Method m : TwoLaws.class.getDeclaredMethods()) {
            if (isOpen(m)) {
                open.add(signature(m));
                Due.hold(m + " is public, answers int", Modifier.isPublic(m.getModifiers()) && m.getReturnType() == int.class);
                Due.hold(m + " is the object's own", !Modifier.isStatic(m.getModifiers()));
            }
        }
        Due.hold("the face is " + open, open.equals(new TreeSet<>(Arrays.asList(FACE))));
        Constructor<?>[] made = TwoLaws.class.getDeclaredConstructors();
        Due.hold("one constructor without parameters", made.length == 1 && made[0].getParameterCount() == 0
            && Modifier.isPublic(made[0].getModifiers()));
        int modifiers = TwoLaws.class.getModifiers();
        Due.hold("public and final", Modifier.isPublic(modifiers) && Modifier.isFinal(modifiers));
    }

    private static void constants() {
        Set<String> open = new TreeSet<>();
        for (Field f : TwoLaws.class.getDeclaredFields()) {
            if (isOpen(f)) {
                open.add(f.getName());
            }
            Due.hold(f + " is final, if static", !Modifier.isStatic(f.getModifiers()) || Modifier.isFinal(f.getModifiers()));
        }
        Due.hold("the constants are " + open, open.equals(new TreeSet<>(Arrays.asList(CONSTANTS))));
        int[] values = {TwoLaws.BAD, TwoLaws.NOT, TwoLaws.FULL, TwoLaws.NONE, TwoLaws.NULL, TwoLaws.CAST, TwoLaws.INDEX, TwoLaws.SIZE};
        Due.hold("their values", Arrays.equals(values, new int[] {-1, -2, -3, -4, -11, -12, -13, -14}));
    }

    private static int everyCall(TwoLaws t, int k) {
        int sum = t.clear() + t.error(k % 3);
        for (int r = 0; r < 10; r++) {
            sum += t.row(r * 7 % 23 - 9, r * 5 % 13 - 6, r * r * 3 % 29 - 9);
        }
        sum += t.gap(1, 2) + t.type(132153814972735L, 6) + t.text() + t.told(1, 2) + t.meets(2, 144) + t.lets(5, 0) + t.count(0);
        sum += t.fewest() + t.letGo(2, 1) + t.together(0, 10) + t.span(1, 5, 5, 1) + t.line(1, 2, 2) + t.hours(5, 10);
        sum += t.wear(144, 1, 1) + t.tries(0, 5, 5) + t.best(1, 5) + t.apart(3, 4, 5) + t.know(k % 289) + t.box(-5, 5);
        sum += t.step(9) + t.holds(0) + t.brake(3, 40, -9999, 9999) + t.watch(1, 2, 3) + t.sheet(0, 2, 36) + t.sheet(1, 2, 12);
        return sum + t.item(0, 2, 5, 9) + t.copy(0, 0, 1, 0, 12) + t.check(1, 2, 0) + t.rows(0, 2, 0, 1) + t.drop(0);
    }

    private static void objects() {
        com.sun.management.ThreadMXBean meter = (com.sun.management.ThreadMXBean) ManagementFactory.getThreadMXBean();
        long thread = Thread.currentThread().getId();
        TwoLaws t = new TwoLaws();
        everyCall(t, 0);
        long before = meter.getThreadAllocatedBytes(thread);
        int sum = 0;
        for (int k = 0; k < ROUNDS; k++) {
            sum += everyCall(t, k);
        }
        long made = meter.getThreadAllocatedBytes(thread) - before;
        Due.hold("calls make no objects (" + made + " bytes, " + sum + ")", made < FEW_BYTES);
    }
}
