import java.util.ArrayList;
import java.util.HashMap;
import java.util.HashSet;
import java.util.List;
import java.util.Map;
import java.util.Set;

/** The document's promises by trying everything: slow, without a thought for speed, written apart from the class. */
final class Oracle {
    private static final int BAD = -1, NOT = -2, FULL = -3, NONE = -4, NULL = -11, CAST = -12, INDEX = -13, SIZE = -14;
    private static final int M = 1000000;

    /** x, u, y; y is null in a gap. */
    private final List<Integer[]> rows = new ArrayList<>();
    private int error = 1;
    private String tape = "";
    private final List<Integer> known = new ArrayList<>();
    private Set<Integer> mayBe = new HashSet<>();
    private int watched = 0;
    private int rang = 0;
    private int low = 0;
    private int high = 0;
    private final Object[] sheets = new Object[4];

    private static boolean in(int v, int from, int to) {
        return from <= v && v <= to;
    }

    private static boolean row(int v) {
        return in(v, -99, 99);
    }

    private static int sum(int law, int x, int u) {
        return (law / 17 - 8) * x + (law % 17 - 8) * u;
    }

    private boolean near(int law, int x, int u, int y) {
        int far = 4 * y - sum(law, x, u);
        return -4 * error <= far && far <= 4 * error;
    }

    private boolean rowMeets(int r, int law) {
        Integer[] row = rows.get(r);
        return row[2] == null || near(law, row[0], row[1], row[2]);
    }

    private List<Integer> members(int heap) {
        List<Integer> list = new ArrayList<>();
        for (int r = 0; r < rows.size(); r++) {
            if ((heap & 1 << r) != 0) {
                list.add(r);
            }
        }
        return list;
    }

    private boolean badHeap(int heap) {
        return heap < 0 || heap >= 1 << rows.size();
    }

    private List<Integer> laws(int heap) {
        List<Integer> list = new ArrayList<>();
        for (int law = 0; law < 289; law++) {
            boolean all = true;
            for (int r : members(heap)) {
                all &= rowMeets(r, law);
            }
            if (all) {
                list.add(law);
            }
        }
        return list;
    }

    int row(int x, int u, int y) {
        if (!row(x) || !row(u) || !row(y)) {
            return BAD;
        }
        if (rows.size() == 12) {
            return FULL;
        }
        rows.add(new Integer[] {x, u, y});
        return rows.size() - 1;
    }

    int gap(int x, int u) {
        int answer = row(x, u, 0);
        if (answer >= 0) {
            rows.get(answer)[2] = null;
        }
        return answer;
    }

    private static int length(Object sheet) {
        return sheet instanceof byte[] b ? b.length : sheet instanceof short[] s ? s.length : ((int[]) sheet).length;
    }

    private static int laneOf(Object sheet) {
        return sheet instanceof byte[] ? 0 : sheet instanceof short[] ? 1 : 2;
    }

    private static int at(Object sheet, int i) {
        return sheet instanceof byte[] b ? b[i] : sheet instanceof short[] s ? s[i] : ((int[]) sheet)[i];
    }

    /** 0, or what the machine finds. */
    private int machine(int sheet, int lane, int i, int n) {
        Object s = sheets[sheet];
        if (s == null) {
            return NULL;
        }
        if (laneOf(s) != lane) {
            return CAST;
        }
        return i < 0 || (long) i + n > length(s) ? INDEX : 0;
    }

    int rows(int sheet, int lane, int i, int n) {
        if (!in(sheet, 0, 3) || !in(lane, 0, 2) || !in(n, 0, 12)) {
            return BAD;
        }
        int found = machine(sheet, lane, i, 3 * n);
        if (found != 0) {
            return found;
        }
        for (int k = i; k < i + 3 * n; k++) {
            if (!row(at(sheets[sheet], k))) {
                return NOT;
            }
        }
        if (rows.size() + n > 12) {
            return FULL;
        }
        for (int k = i; k < i + 3 * n; k += 3) {
            row(at(sheets[sheet], k), at(sheets[sheet], k + 1), at(sheets[sheet], k + 2));
        }
        return n;
    }

    int type(long w, int n) {
        if (!in(n, 1, 8)) {
            return BAD;
        }
        StringBuilder more = new StringBuilder();
        for (int k = 0; k < n; k++) {
            int b = (int) (w >>> 8 * k) & 0xff;
            if (!in(b, 32, 126)) {
                return BAD;
            }
            more.insert(0, (char) b);
        }
        if (tape.length() + n > 120) {
            return FULL;
        }
        tape += more;
        return tape.length();
    }

    /** A piece of the text: one sign, or a run of digits. */
    private record Piece(String text, int place) {
        boolean isNumber() {
            return Character.isDigit(text.charAt(0));
        }
    }

    private static List<Piece> pieces(String text) {
        List<Piece> list = new ArrayList<>();
        java.util.regex.Matcher m = java.util.regex.Pattern.compile("[0-9]+|[^ 0-9]").matcher(text);
        while (m.find()) {
            list.add(new Piece(m.group(), m.start()));
        }
        list.add(new Piece("$end", text.length()));
        return list;
    }

    int text() {
        List<Piece> p = pieces(tape);
        tape = "";
        List<Integer[]> come = new ArrayList<>();
        int k = 0;
        do {
            if (come.size() > 0) {
                k++;
            }
            Integer[] row = new Integer[3];
            for (int part = 0; part < 3; part++) {
                boolean stands = p.get(k).text.equals("xuy".substring(part, part + 1));
                if (!stands || rows.size() + come.size() == 12) {
                    return -20 - p.get(k).place;
                }
                k++;
                if (part == 2 && p.get(k).text.equals("?")) {
                    k++;
                    break;
                }
                int first = p.get(k).place;
                int sign = 1;
                if (p.get(k).text.equals("-")) {
                    sign = -1;
                    k++;
                }
                if (!p.get(k).isNumber()) {
                    return -20 - p.get(k).place;
                }
                if (new java.math.BigInteger(p.get(k).text).compareTo(java.math.BigInteger.valueOf(99)) > 0) {
                    return -20 - first;
                }
                row[part] = sign * Integer.parseInt(p.get(k).text);
                k++;
            }
            come.add(row);
        } while (p.get(k).text.equals(";"));
        if (k != p.size() - 1) {
            return -20 - p.get(k).place;
        }
        rows.addAll(come);
        return come.size();
    }

    int told(int row, int what) {
        if (!in(row, 0, rows.size() - 1) || !in(what, 0, 2)) {
            return BAD - M;
        }
        Integer v = rows.get(row)[what];
        return v == null ? NONE - M : v;
    }

    int clear() {
        int n = rows.size();
        rows.clear();
        return n;
    }

    int error(int e) {
        if (!in(e, 0, 20)) {
            return BAD;
        }
        int was = error;
        error = e;
        return was;
    }

    int meets(int row, int law) {
        if (!in(row, 0, rows.size() - 1) || !in(law, 0, 288)) {
            return BAD;
        }
        return rowMeets(row, law) ? 1 : 0;
    }

    int lets(int heap, int i) {
        if (badHeap(heap) || i < -1) {
            return BAD;
        }
        List<Integer> laws = laws(heap);
        return i == -1 ? laws.size() : i < laws.size() ? laws.get(i) : NONE;
    }

    int count(int what) {
        int gaps = 0;
        for (Integer[] row : rows) {
            gaps += row[2] == null ? 1 : 0;
        }
        int[] counts = {rows.size(), gaps, known.size(), watched, rang};
        return in(what, 0, 4) ? counts[what] : BAD;
    }

    /** Every set of rows that k laws, taken in any way, can meet. */
    private Set<Integer> metBy(int k) {
        Set<Integer> single = new HashSet<>();
        for (int law = 0; law < 289; law++) {
            int met = 0;
            for (int r = 0; r < rows.size(); r++) {
                met |= rowMeets(r, law) ? 1 << r : 0;
            }
            single.add(met);
        }
        Set<Integer> sets = new HashSet<>(Set.of(0));
        for (int n = 0; n < k; n++) {
            Set<Integer> next = new HashSet<>();
            for (int a : sets) {
                for (int b : single) {
                    next.add(a | b);
                }
            }
            sets = next;
        }
        return sets;
    }

    int fewest() {
        for (int k = 0; k <= 12; k++) {
            if (metBy(k).contains((1 << rows.size()) - 1)) {
                return k;
            }
        }
        return NONE;
    }

    int letGo(int k, int what) {
        if (!in(k, 0, 6) || !in(what, 0, 1)) {
            return BAD;
        }
        int all = (1 << rows.size()) - 1;
        int least = all;
        for (int met : metBy(k)) {
            int gone = all & ~met;
            int many = Integer.compare(Integer.bitCount(gone), Integer.bitCount(least));
            if (many < 0 || many == 0 && gone < least) {
                least = gone;
            }
        }
        return what == 0 ? Integer.bitCount(least) : least;
    }

    int together(int a, int b) {
        if (!in(a, 0, rows.size() - 1) || !in(b, 0, rows.size() - 1) || a == b) {
            return BAD;
        }
        int n = fewest();
        if (n == NONE) {
            return NONE;
        }
        boolean[] seen = new boolean[2];
        part(0, new int[n], 0, 1 << a | 1 << b, seen, new HashMap<>());
        return seen[1] ? seen[0] ? 1 : 2 : 0;
    }

    /** Puts row r into each heap that stays whole by it, or into the next empty one. */
    private void part(int r, int[] heaps, int used, int both, boolean[] seen, Map<Integer, Boolean> whole) {
        if (seen[0] && seen[1]) {
            return;
        }
        if (r == rows.size()) {
            boolean one = false;
            for (int heap : heaps) {
                one |= (heap & both) == both;
            }
            seen[one ? 1 : 0] = true;
            return;
        }
        for (int h = 0; h <= used && h < heaps.length; h++) {
            int with = heaps[h] | 1 << r;
            if (whole.computeIfAbsent(with, heap -> !laws(heap).isEmpty())) {
                heaps[h] = with;
                part(r + 1, heaps, Math.max(used, h + 1), both, seen, whole);
                heaps[h] = with & ~(1 << r);
            }
        }
    }

    int span(int heap, int x, int u, int what) {
        if (badHeap(heap) || !row(x) || !row(u) || !in(what, 0, 1)) {
            return BAD - M;
        }
        List<Integer> sums = new ArrayList<>();
        for (int law : laws(heap)) {
            sums.add(sum(law, x, u));
        }
        sums.sort(null);
        return sums.isEmpty() ? NONE - M : sums.get(what == 0 ? 0 : sums.size() - 1);
    }

    int line(int one, int other, int what) {
        if (badHeap(one) || badHeap(other) || (one & other) != 0 || !in(what, 0, 2)) {
            return BAD - M;
        }
        for (int p = -3; p <= 3; p++) {
            for (int q = -3; q <= 3; q++) {
                for (int r = -99; r <= 99; r++) {
                    if (parts(one, other, p, q, r)) {
                        return new int[] {p, q, r}[what];
                    }
                }
            }
        }
        return NONE - M;
    }

    private boolean parts(int one, int other, int p, int q, int r) {
        for (int k : members(one)) {
            if (p * rows.get(k)[0] + q * rows.get(k)[1] < r) {
                return false;
            }
        }
        for (int k : members(other)) {
            if (p * rows.get(k)[0] + q * rows.get(k)[1] >= r) {
                return false;
            }
        }
        return true;
    }

    int hours(int one, int other) {
        if (badHeap(one) || badHeap(other)) {
            return BAD;
        }
        for (int m = 1; m <= 6; m++) {
            boolean same = false;
            for (int a : members(one)) {
                for (int b : members(other)) {
                    same |= a % m == b % m;
                }
            }
            if (!same) {
                return m;
            }
        }
        return NONE;
    }

    int wear(int law, int da, int db) {
        if (!in(law, 0, 288) || !in(da, -1, 1) || !in(db, -1, 1) || da == 0 && db == 0) {
            return BAD;
        }
        if (!in(law / 17 + da, 0, 16) || !in(law % 17 + db, 0, 16)) {
            return NOT;
        }
        for (int s = 0; s <= rows.size(); s++) {
            boolean all = true;
            for (int r = 0; r < rows.size(); r++) {
                all &= rowMeets(r, r < s ? law : law + 17 * da + db);
            }
            if (all) {
                return s;
            }
        }
        return NONE;
    }

    int check(int sheet, int lane, int i) {
        if (!in(sheet, 0, 3) || !in(lane, 0, 2)) {
            return BAD;
        }
        int found = machine(sheet, lane, i, rows.size());
        if (found != 0) {
            return found;
        }
        int[] heaps = new int[12];
        for (int r = 0; r < rows.size(); r++) {
            int heap = at(sheets[sheet], i + r);
            if (!in(heap, 0, 11)) {
                return NOT;
            }
            heaps[heap] |= 1 << r;
        }
        for (int h = 0; h < 12; h++) {
            if (laws(heaps[h]).isEmpty()) {
                return h;
            }
        }
        return NONE;
    }

    private int left(List<Integer> laws, int x, int u) {
        int most = 0;
        for (int y = -260; y <= 260; y++) {
            int n = 0;
            for (int law : laws) {
                n += near(law, x, u, y) ? 1 : 0;
            }
            most = Math.max(most, n);
        }
        return most;
    }

    int tries(int heap, int x, int u) {
        if (badHeap(heap) || !row(x) || !in(u, -9, 9)) {
            return BAD;
        }
        List<Integer> laws = laws(heap);
        return laws.isEmpty() ? NONE : left(laws, x, u);
    }

    int best(int heap, int x) {
        if (badHeap(heap) || !row(x)) {
            return BAD - M;
        }
        List<Integer> laws = laws(heap);
        if (laws.isEmpty()) {
            return NONE - M;
        }
        List<int[]> pushes = new ArrayList<>();
        for (int u = -9; u <= 9; u++) {
            pushes.add(new int[] {left(laws, x, u), Math.abs(u), -u});
        }
        pushes.sort(java.util.Arrays::compare);
        return -pushes.get(0)[2];
    }

    int apart(int law, int other, int x) {
        if (!in(law, 0, 288) || !in(other, 0, 288) || !row(x)) {
            return BAD - M;
        }
        for (int size = 0; size <= 9; size++) {
            for (int u : new int[] {size, -size}) {
                boolean both = false;
                for (int y = -260; y <= 260; y++) {
                    both |= near(law, x, u, y) && near(other, x, u, y);
                }
                if (!both) {
                    return u;
                }
            }
        }
        return NONE - M;
    }

    int know(int law) {
        if (!in(law, 0, 288)) {
            return BAD;
        }
        if (known.contains(law)) {
            return NOT;
        }
        if (known.size() == 4) {
            return FULL;
        }
        known.add(law);
        mayBe = new HashSet<>(known);
        return known.size() - 1;
    }

    int box(int from, int to) {
        if (!in(from, -9999, 9999) || !in(to, -9999, 9999) || from > to) {
            return BAD;
        }
        low = from;
        high = to;
        return 1;
    }

    private static int held(double quarters, boolean up) {
        double whole = up ? Math.ceil(quarters / 4) : Math.floor(quarters / 4);
        return (int) Math.max(-9999, Math.min(9999, whole));
    }

    int step(int u) {
        if (!row(u)) {
            return BAD;
        }
        if (known.isEmpty()) {
            return NONE;
        }
        List<Integer> sums = new ArrayList<>();
        for (int law : known) {
            sums.add(sum(law, low, u));
            sums.add(sum(law, high, u));
        }
        sums.sort(null);
        low = held(sums.get(0) - 4 * error, false);
        high = held(sums.get(sums.size() - 1) + 4 * error, true);
        return 1;
    }

    int holds(int what) {
        return what == 0 ? low : what == 1 ? high : BAD - M;
    }

    int brake(int u, int n, int from, int to) {
        if (!row(u) || !in(n, 1, 40) || !in(from, -9999, 9999) || !in(to, -9999, 9999) || from > to) {
            return BAD;
        }
        if (known.isEmpty()) {
            return NOT;
        }
        int wasLow = low;
        int wasHigh = high;
        int answer = NONE;
        for (int k = 1; k <= n && answer == NONE; k++) {
            step(u);
            answer = in(low, from, to) && in(high, from, to) ? NONE : k;
        }
        low = wasLow;
        high = wasHigh;
        return answer;
    }

    int watch(int x, int u, int y) {
        if (!row(x) || !row(u) || !row(y)) {
            return BAD;
        }
        if (known.isEmpty()) {
            return NOT;
        }
        watched++;
        Set<Integer> left = new HashSet<>(mayBe);
        left.removeIf(law -> !near(law, x, u, y));
        int ring = 0;
        if (left.isEmpty()) {
            ring = 16;
            rang++;
            left.addAll(known);
            left.removeIf(law -> !near(law, x, u, y));
            if (left.isEmpty()) {
                left.addAll(known);
            }
        }
        mayBe = left;
        int bits = 0;
        for (int law : left) {
            bits |= 1 << known.indexOf(law);
        }
        return ring + bits;
    }

    int sheet(int sheet, int lane, int n) {
        if (!in(sheet, 0, 3) || !in(lane, 0, 2) || n > 36) {
            return BAD;
        }
        if (n < 0) {
            return SIZE;
        }
        sheets[sheet] = lane == 0 ? new byte[n] : lane == 1 ? new short[n] : new int[n];
        return n;
    }

    int drop(int sheet) {
        if (!in(sheet, 0, 3)) {
            return BAD;
        }
        if (sheets[sheet] == null) {
            return NULL;
        }
        int had = length(sheets[sheet]);
        sheets[sheet] = null;
        return had;
    }

    int item(int sheet, int lane, int i, int v) {
        if (!in(sheet, 0, 3) || !in(lane, 0, 2)) {
            return BAD;
        }
        int found = machine(sheet, lane, i, 1);
        if (found != 0) {
            return found;
        }
        if (lane == 0) {
            ((byte[]) sheets[sheet])[i] = (byte) v;
        } else if (lane == 1) {
            ((short[]) sheets[sheet])[i] = (short) v;
        } else {
            ((int[]) sheets[sheet])[i] = v;
        }
        return 1;
    }

    int copy(int from, int i, int to, int j, int n) {
        if (!in(from, 0, 3) || !in(to, 0, 3)) {
            return BAD;
        }
        Object source = sheets[from];
        Object target = sheets[to];
        if (source == null || target == null) {
            return NULL;
        }
        if (laneOf(source) != laneOf(target)) {
            return CAST;
        }
        if (n < 0 || i < 0 || j < 0 || (long) i + n > length(source) || (long) j + n > length(target)) {
            return INDEX;
        }
        System.arraycopy(source, i, target, j, n);
        return n;
    }
}
