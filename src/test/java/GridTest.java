import java.util.function.Supplier;

/** Every call with every choice of numbers at, beside and far beyond its bounds, put to the class and to the oracle. */
public final class GridTest {
    private static final int LEAST = Integer.MIN_VALUE, MOST = Integer.MAX_VALUE;
    /** Objects are made anew ahead of their 512th call. */
    private static final int MOST_CALLS = 480;

    private static final int[] NUMBERS = {LEAST, -100, -99, 0, 4, 99, 100, MOST};
    private static final int[] PUSHES = {LEAST, -10, -9, 0, 9, 10, MOST};
    private static final int[] ROWS = {LEAST, -1, 0, 2, 4, 5, 11, 12, MOST};
    private static final int[] HEAPS = {LEAST, -1, 0, 1, 2, 9, 12, 31, 32, 2048, 4095, 4096, MOST};
    private static final int[] LAWS = {LEAST, -1, 0, 16, 144, 216, 272, 288, 289, MOST};
    private static final int[] WHATS = {LEAST, -1, 0, 1, 2, 3, 4, 5, MOST};
    private static final int[] STEPS = {LEAST, -2, -1, 0, 1, 2, MOST};
    private static final int[] SHEETS = {LEAST, -1, 0, 2, 3, 4, MOST};
    private static final int[] LANES = {LEAST, -1, 0, 1, 2, 3, MOST};
    private static final int[] ITEMS = {LEAST, -1, 0, 5, 6, 8, 9, 10, 30, 35, 36, 37, MOST - 35, MOST};
    private static final int[] MANY = {LEAST, -1, 0, 1, 3, 4, 9, 12, 13, 36, 37, MOST};
    private static final int[] STATES = {LEAST, -10000, -9999, -5, 0, 5, 9999, 10000, MOST};

    private final Supplier<Twins> made;
    private Twins twins;

    private GridTest(Supplier<Twins> made) {
        this.made = made;
        this.twins = made.get();
    }

    public static void main(String[] args) {
        new GridTest(Twins::new).everyCall();
        new GridTest(GridTest::lived).everyCall();
        new GridTest(GridTest::full).everyCall();
        Due.end();
    }

    private static Twins lived() {
        Twins t = new Twins();
        for (int k = 0; k < 4; k++) {
            t.call("row", 4 * k - 5, k, 2 - k);
        }
        t.call("gap", 7, -7);
        t.call("know", 216);
        t.call("know", 16);
        t.call("watch", 0, 4, 4);
        t.call("box", -30, 40);
        t.type("x7u-8y9");
        t.call("sheet", 0, 0, 9);
        t.call("sheet", 2, 2, 36);
        t.call("item", 0, 0, 5, 3);
        t.call("item", 2, 2, 8, 100);
        return t;
    }

    private static Twins full() {
        Twins t = new Twins();
        for (int k = 0; k < 12; k++) {
            t.call("row", 4 + k / 9, 3 * (k % 2), k - 6);
        }
        for (int law : new int[] {0, 288, 144, 216}) {
            t.call("know", law);
        }
        t.type(" ".repeat(120));
        for (int s = 0; s < 4; s++) {
            t.call("sheet", s, s % 3, 36);
        }
        return t;
    }

    private void everyCall() {
        grid("row", NUMBERS, NUMBERS, NUMBERS);
        grid("gap", NUMBERS, NUMBERS);
        grid("rows", SHEETS, LANES, ITEMS, MANY);
        grid("type", new int[] {LEAST, -1, 0, 31, 32, 126, 127, 128, MOST}, new int[] {LEAST, -1, 0, 1, 2, 8, 9, MOST});
        grid("text");
        grid("told", ROWS, WHATS);
        grid("clear");
        grid("error", new int[] {LEAST, -1, 0, 20, 21, MOST, 1});
        grid("meets", ROWS, LAWS);
        grid("lets", HEAPS, new int[] {LEAST, -2, -1, 0, 1, 17, 288, 289, MOST});
        grid("count", WHATS);
        grid("fewest");
        grid("letGo", new int[] {LEAST, -1, 0, 1, 6, 7, MOST}, STEPS);
        grid("together", ROWS, ROWS);
        grid("span", HEAPS, NUMBERS, NUMBERS, STEPS);
        grid("line", HEAPS, HEAPS, WHATS);
        grid("hours", HEAPS, HEAPS);
        grid("wear", LAWS, STEPS, STEPS);
        grid("check", SHEETS, LANES, ITEMS);
        grid("tries", HEAPS, NUMBERS, PUSHES);
        grid("best", HEAPS, NUMBERS);
        grid("apart", LAWS, LAWS, NUMBERS);
        grid("know", LAWS);
        grid("box", STATES, STATES);
        grid("step", NUMBERS);
        grid("holds", STEPS);
        grid("brake", NUMBERS, new int[] {LEAST, 0, 1, 2, 40, 41, MOST}, STATES, STATES);
        grid("watch", NUMBERS, NUMBERS, NUMBERS);
        grid("sheet", SHEETS, LANES, ITEMS);
        grid("drop", SHEETS);
        grid("item", SHEETS, LANES, ITEMS, new int[] {LEAST, -1, 100, 255, MOST});
        grid("copy", SHEETS, ITEMS, SHEETS, ITEMS, MANY);
    }

    /** The call with every choice of one number a parameter; each grid starts with new objects. */
    private void grid(String name, int[]... choices) {
        twins = made.get();
        choose(name, choices, new int[choices.length], 0);
    }

    private void choose(String name, int[][] choices, int[] args, int k) {
        if (k == args.length) {
            if (twins.calls() >= MOST_CALLS) {
                twins = made.get();
            }
            twins.call(name, args);
            return;
        }
        for (int v : choices[k]) {
            args[k] = v;
            choose(name, choices, args, k + 1);
        }
    }
}
