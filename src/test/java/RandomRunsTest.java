import java.util.Random;

/** Runs of calls, the same every time, put to the class and to the oracle: all promises by turns. */
public final class RandomRunsTest {
    private static final int RUNS = 300;
    private static final int CALLS = 512;

    private final Random random;
    private final TwoLaws laws = new TwoLaws();
    private final Oracle oracle = new Oracle();
    private final int run;
    /** In a run of few laws rows obey one of these; else ends are anything. */
    private final int[] hidden;

    private RandomRunsTest(int run) {
        this.run = run;
        random = new Random(run);
        hidden = new int[random.nextInt(4)];
        for (int k = 0; k < hidden.length; k++) {
            hidden[k] = random.nextInt(289);
        }
    }

    public static void main(String[] args) {
        for (int run = 0; run < RUNS; run++) {
            RandomRunsTest test = new RandomRunsTest(run);
            for (int call = 0; call < CALLS; call++) {
                test.oneCall();
            }
        }
        Due.end();
    }

    private void same(String call, int want, int got) {
        Due.be("run " + run + ": " + call, want, got);
    }

    /** Mostly from .. to, at times just outside, at times far outside. */
    private int number(int from, int to) {
        int way = random.nextInt(60);
        if (way == 0) {
            return from - 1;
        }
        if (way == 1) {
            return to + 1;
        }
        if (way == 2) {
            return random.nextInt();
        }
        return way < 6 ? (way % 2 == 0 ? from : to) : from + random.nextInt(to - from + 1);
    }

    private int small() {
        return random.nextInt(4) == 0 ? number(-99, 99) : number(-12, 12);
    }

    private int row() {
        return number(0, Math.max(0, laws.count(0) - 1));
    }

    private int heap() {
        int all = (1 << laws.count(0)) - 1;
        return random.nextInt(40) == 0 ? number(0, all) : random.nextInt() & all & (random.nextBoolean() ? -1 : random.nextInt());
    }

    /** Mostly the run's own lane, so that sheets are seldom taken amiss. */
    private int lane() {
        return random.nextInt(8) == 0 ? number(0, 2) : run % 3;
    }

    private int sheet() {
        return random.nextInt(4) == 0 ? number(0, 3) : random.nextInt(2);
    }

    private int law() {
        return hidden.length > 0 && random.nextBoolean() ? hidden[random.nextInt(hidden.length)] : number(0, 288);
    }

    /** An end that a hidden law gives, perhaps with an error, or anything. */
    private int end(int x, int u) {
        if (hidden.length == 0 || random.nextInt(12) == 0) {
            return small();
        }
        int law = hidden[random.nextInt(hidden.length)];
        int sum = (law / 17 - 8) * (x % 100) + (law % 17 - 8) * (u % 100);
        return Math.floorDiv(sum + 2, 4) + random.nextInt(3) - 1;
    }

    private void oneCall() {
        int group = random.nextInt(10);
        if (group < 4) {
            rowsCall(random.nextInt(14));
        } else if (group < 6) {
            heapsCall(random.nextInt(8));
        } else if (group < 8) {
            trialsCall(random.nextInt(9));
        } else {
            sheetsCall(random.nextInt(9));
        }
    }

    private void rowsCall(int which) {
        int x = small();
        int u = small();
        int y = end(x, u);
        switch (which) {
            case 0, 1, 2 -> same("row(" + x + ", " + u + ", " + y + ")", oracle.row(x, u, y), laws.row(x, u, y));
            case 3 -> same("gap(" + x + ", " + u + ")", oracle.gap(x, u), laws.gap(x, u));
            case 4, 5, 6 -> textCall();
            case 7 -> {
                if (random.nextInt(6) == 0) {
                    same("clear()", oracle.clear(), laws.clear());
                }
            }
            case 8 -> {
                int e = random.nextInt(3) == 0 ? number(0, 20) : random.nextInt(3);
                same("error(" + e + ")", oracle.error(e), laws.error(e));
            }
            case 9 -> {
                int row = row();
                int law = law();
                same("meets(" + row + ", " + law + ")", oracle.meets(row, law), laws.meets(row, law));
            }
            case 10, 11 -> {
                int heap = heap();
                int i = random.nextInt(3) == 0 ? number(-1, 289) : number(-1, 9);
                same("lets(" + heap + ", " + i + ")", oracle.lets(heap, i), laws.lets(heap, i));
            }
            case 12 -> {
                int what = number(0, 4);
                same("count(" + what + ")", oracle.count(what), laws.count(what));
            }
            default -> {
                int row = row();
                int what = number(0, 2);
                same("told(" + row + ", " + what + ")", oracle.told(row, what), laws.told(row, what));
            }
        }
    }

    /** A text that is often right, often nearly. */
    private void textCall() {
        StringBuilder text = new StringBuilder();
        int n = random.nextInt(8) == 0 ? 13 : 1 + random.nextInt(2);
        for (int k = 0; k < n; k++) {
            text.append(k == 0 ? "" : ";").append('x').append(small() % 120).append('u').append(small() % 120).append('y');
            text.append(random.nextInt(5) == 0 ? "?" : String.valueOf(small() % 120));
        }
        for (int k = random.nextInt(4); k > 0; k--) {
            text.insert(random.nextInt(text.length() + 1), ' ');
        }
        if (random.nextInt(3) == 0) {
            int at = random.nextInt(text.length());
            switch (random.nextInt(3)) {
                case 0 -> text.deleteCharAt(at);
                case 1 -> text.insert(at, "xuy?;-0719z ".charAt(random.nextInt(12)));
                default -> text.setLength(at);
            }
        }
        for (int from = 0; from < text.length();) {
            int to = Math.min(text.length(), from + 1 + random.nextInt(8));
            long w = Due.bytes(text.substring(from, to));
            int many = random.nextInt(200) == 0 ? number(1, 8) : to - from;
            same("type(" + w + ", " + many + ")", oracle.type(w, many), laws.type(w, many));
            from = to;
        }
        if (random.nextInt(8) != 0) {
            same("text() of " + text, oracle.text(), laws.text());
            same("count(0)", oracle.count(0), laws.count(0));
        }
    }

    private void heapsCall(int which) {
        switch (which) {
            case 0 -> same("fewest()", oracle.fewest(), laws.fewest());
            case 1 -> {
                int k = number(0, 6);
                int what = number(0, 1);
                same("letGo(" + k + ", " + what + ")", oracle.letGo(k, what), laws.letGo(k, what));
            }
            case 2 -> {
                int a = row();
                int b = row();
                same("together(" + a + ", " + b + ")", oracle.together(a, b), laws.together(a, b));
            }
            case 3 -> {
                int heap = heap();
                int x = small();
                int u = small();
                int what = number(0, 1);
                same("span(" + heap + ", " + x + ", " + u + ", " + what + ")", oracle.span(heap, x, u, what), laws.span(heap, x, u, what));
            }
            case 4 -> {
                int one = heap();
                int other = random.nextInt(10) == 0 ? heap() : heap() & ~one;
                int what = number(0, 2);
                same("line(" + one + ", " + other + ", " + what + ")", oracle.line(one, other, what), laws.line(one, other, what));
            }
            case 5 -> {
                int one = heap();
                int other = random.nextInt(10) == 0 ? heap() : heap() & ~one;
                same("hours(" + one + ", " + other + ")", oracle.hours(one, other), laws.hours(one, other));
            }
            case 6 -> {
                int law = law();
                int da = number(-1, 1);
                int db = number(-1, 1);
                same("wear(" + law + ", " + da + ", " + db + ")", oracle.wear(law, da, db), laws.wear(law, da, db));
            }
            default -> {
                int sheet = sheet();
                int lane = lane();
                int i = number(0, 12);
                same("check(" + sheet + ", " + lane + ", " + i + ")", oracle.check(sheet, lane, i), laws.check(sheet, lane, i));
            }
        }
    }

    private void trialsCall(int which) {
        int x = small();
        int u = small();
        switch (which) {
            case 0 -> {
                int heap = heap();
                int push = number(-9, 9);
                same("tries(" + heap + ", " + x + ", " + push + ")", oracle.tries(heap, x, push), laws.tries(heap, x, push));
            }
            case 1 -> {
                int heap = heap();
                same("best(" + heap + ", " + x + ")", oracle.best(heap, x), laws.best(heap, x));
            }
            case 2 -> {
                int law = law();
                int other = random.nextInt(4) == 0 ? law : law();
                same("apart(" + law + ", " + other + ", " + x + ")", oracle.apart(law, other, x), laws.apart(law, other, x));
            }
            case 3 -> {
                if (random.nextInt(4) == 0) {
                    int law = law();
                    same("know(" + law + ")", oracle.know(law), laws.know(law));
                }
            }
            case 4 -> {
                int from = random.nextBoolean() ? small() : number(-9999, 9999);
                int to = random.nextBoolean() ? from + random.nextInt(50) : number(-9999, 9999);
                same("box(" + from + ", " + to + ")", oracle.box(from, to), laws.box(from, to));
            }
            case 5, 6 -> {
                same("step(" + u + ")", oracle.step(u), laws.step(u));
                int what = number(0, 1);
                same("holds(" + what + ")", oracle.holds(what), laws.holds(what));
            }
            case 7 -> {
                int n = number(1, 40);
                int low = random.nextBoolean() ? number(-9999, 0) : -9999;
                int high = random.nextBoolean() ? number(0, 9999) : 9999;
                same("brake(" + u + ", " + n + ", " + low + ", " + high + ")", oracle.brake(u, n, low, high), laws.brake(u, n, low, high));
            }
            default -> {
                int y = end(x, u);
                same("watch(" + x + ", " + u + ", " + y + ")", oracle.watch(x, u, y), laws.watch(x, u, y));
            }
        }
    }

    private void sheetsCall(int which) {
        int sheet = sheet();
        int lane = lane();
        int other = sheet();
        switch (which) {
            case 0 -> {
                int n = random.nextBoolean() ? 36 : number(0, 36);
                same("sheet(" + sheet + ", " + lane + ", " + n + ")", oracle.sheet(sheet, lane, n), laws.sheet(sheet, lane, n));
            }
            case 1 -> {
                if (random.nextInt(6) == 0) {
                    same("drop(" + sheet + ")", oracle.drop(sheet), laws.drop(sheet));
                }
            }
            case 2, 3, 4, 5 -> {
                int i = random.nextBoolean() ? number(0, 12) : number(0, 35);
                int v = random.nextInt(8) == 0 ? random.nextInt() : number(0, 11);
                same("item(" + sheet + ", " + lane + ", " + i + ", " + v + ")", oracle.item(sheet, lane, i, v), laws.item(sheet, lane, i, v));
            }
            case 6, 7 -> {
                int i = number(0, 12);
                int j = number(0, 12);
                int n = number(0, 24);
                same("copy(" + sheet + ", " + i + ", " + other + ", " + j + ", " + n + ")",
                    oracle.copy(sheet, i, other, j, n), laws.copy(sheet, i, other, j, n));
            }
            default -> {
                int i = number(0, 36);
                int n = random.nextBoolean() ? number(0, 3) : number(0, 12);
                same("rows(" + sheet + ", " + lane + ", " + i + ", " + n + ")", oracle.rows(sheet, lane, i, n), laws.rows(sheet, lane, i, n));
            }
        }
    }
}
