import java.util.Arrays;

/**
 * Rows of a works (a state, a push, what came of it), each by one of some laws that nobody kept.
 * The document ../shared/DOC.md tells every call; words in capitals there are plain words here.
 */
public final class TwoLaws {
    public static final int BAD = -1, NOT = -2, FULL = -3, NONE = -4, NULL = -11, CAST = -12, INDEX = -13, SIZE = -14;

    /** How far calls that answer numbers of both signs put a refusal below them. */
    private static final int BELOW_NUMBERS = 1000000;
    private static final int MOST_ROWS = 12;
    private static final int MOST_ERROR = 20;
    /** States, pushes and ends of rows, and a line's r, are no farther from 0. */
    private static final int FAR = 99;
    private static final int FAR_TRIED_PUSH = 9;
    private static final int FAR_SLOPE = 3;
    private static final int FAR_BOX = 9999;
    private static final int FAR_PART = 8;
    private static final int PARTS = 17;
    private static final int LAWS = 289;
    private static final int MOST_HOURS = 6;
    private static final int MOST_LAWS_CHOSEN = 6;
    private static final int MOST_BRAKE_STEPS = 40;
    private static final int SHEETS = 4;
    private static final int LANES = 3;

    private final Book book = new Book();
    private final Partings partings = new Partings();
    private final Tape tape = new Tape();
    private final Trial trial = new Trial();
    private final Known known = new Known();
    private final Box held = new Box();
    /** A second box, so that a brake can be tried while the held one stays. */
    private final Box tried = new Box();
    private final Sheet[] sheets = new Sheet[SHEETS];

    public TwoLaws() {
        for (int s = 0; s < sheets.length; s++) {
            sheets[s] = new Sheet();
        }
    }

    // ---- 1 rows, laws

    public int row(int x, int u, int y) {
        if (!isNear(x, FAR) || !isNear(u, FAR) || !isNear(y, FAR)) {
            return BAD;
        }
        return book.add(x, u, y, false);
    }

    public int gap(int x, int u) {
        if (!isNear(x, FAR) || !isNear(u, FAR)) {
            return BAD;
        }
        return book.add(x, u, 0, true);
    }

    public int rows(int sheet, int lane, int i, int n) {
        Sheet from = sheetAt(sheet);
        if (from == null || !isLane(lane) || n < 0 || n > MOST_ROWS) {
            return BAD;
        }
        int refusal = from.refusal(lane, i, 3 * n);
        if (refusal < 0) {
            return refusal;
        }
        if (!from.allWithin(i, 3 * n, -FAR, FAR)) {
            return NOT;
        }
        if (n > book.room()) {
            return FULL;
        }
        for (int k = 0; k < n; k++) {
            int at = i + 3 * k;
            book.add(from.at(at), from.at(at + 1), from.at(at + 2), false);
        }
        return n;
    }

    public int type(long w, int n) {
        return tape.append(w, n);
    }

    public int text() {
        int come = tape.read(book.room());
        for (int k = 0; k < come; k++) {
            tape.hand(k, book);
        }
        return come;
    }

    public int told(int row, int what) {
        if (!book.has(row) || what < 0 || what > 2) {
            return BAD - BELOW_NUMBERS;
        }
        if (what == 0) {
            return book.state(row);
        }
        if (what == 1) {
            return book.push(row);
        }
        return book.isGap(row) ? NONE - BELOW_NUMBERS : book.end(row);
    }

    public int clear() {
        int gone = book.empty();
        partings.forget();
        return gone;
    }

    public int error(int e) {
        if (e < 0 || e > MOST_ERROR) {
            return BAD;
        }
        int was = book.errorNow();
        book.takeError(e);
        partings.forget();
        return was;
    }

    public int meets(int row, int law) {
        if (!book.has(row) || !Law.is(law)) {
            return BAD;
        }
        return book.letsLaw(1 << row, law) ? 1 : 0;
    }

    public int lets(int heap, int i) {
        if (!book.isHeap(heap) || i < -1) {
            return BAD;
        }
        return i == -1 ? book.lawCount(heap) : book.lawOf(heap, i);
    }

    public int count(int what) {
        switch (what) {
            case 0:
                return book.size();
            case 1:
                return book.gapCount();
            case 2:
                return known.size();
            case 3:
                return known.watchedCount();
            case 4:
                return known.rangCount();
            default:
                return BAD;
        }
    }

    // ---- 2 heaps

    public int fewest() {
        return partings.leastLaws(book);
    }

    public int letGo(int k, int what) {
        if (k < 0 || k > MOST_LAWS_CHOSEN || what < 0 || what > 1) {
            return BAD;
        }
        int gone = partings.leftOut(book, k);
        return what == 0 ? Integer.bitCount(gone) : gone;
    }

    public int together(int a, int b) {
        if (!book.has(a) || !book.has(b) || a == b) {
            return BAD;
        }
        return partings.howTogether(book, a, b);
    }

    public int span(int heap, int x, int u, int what) {
        if (!book.isHeap(heap) || !isNear(x, FAR) || !isNear(u, FAR) || what < 0 || what > 1) {
            return BAD - BELOW_NUMBERS;
        }
        if (!book.isWhole(heap)) {
            return NONE - BELOW_NUMBERS;
        }
        // The greatest sum is the least one of the mirrored state and push, mirrored back.
        return what == 0 ? book.leastSum(heap, x, u) : -book.leastSum(heap, -x, -u);
    }

    public int line(int one, int other, int what) {
        if (!book.isHeap(one) || !book.isHeap(other) || (one & other) != 0 || what < 0 || what > 2) {
            return BAD - BELOW_NUMBERS;
        }
        for (int p = -FAR_SLOPE; p <= FAR_SLOPE; p++) {
            for (int q = -FAR_SLOPE; q <= FAR_SLOPE; q++) {
                int r = Math.max(-FAR, 1 - book.leastHeight(other, -p, -q));
                if (r <= FAR && r <= book.leastHeight(one, p, q)) {
                    return what == 0 ? p : what == 1 ? q : r;
                }
            }
        }
        return NONE - BELOW_NUMBERS;
    }

    public int hours(int one, int other) {
        if (!book.isHeap(one) || !book.isHeap(other)) {
            return BAD;
        }
        for (int m = 1; m <= MOST_HOURS; m++) {
            if ((rests(one, m) & rests(other, m)) == 0) {
                return m;
            }
        }
        return NONE;
    }

    public int wear(int law, int da, int db) {
        if (!Law.is(law) || !isNear(da, 1) || !isNear(db, 1) || (da == 0 && db == 0)) {
            return BAD;
        }
        int a = Law.partOfState(law) + da;
        int b = Law.partOfPush(law) + db;
        if (!isNear(a, FAR_PART) || !isNear(b, FAR_PART)) {
            return NOT;
        }
        int worn = Law.number(a, b);
        for (int s = 0; s <= book.size(); s++) {
            int ahead = (1 << s) - 1;
            if (book.letsLaw(ahead, law) && book.letsLaw(book.all() & ~ahead, worn)) {
                return s;
            }
        }
        return NONE;
    }

    public int check(int sheet, int lane, int i) {
        Sheet from = sheetAt(sheet);
        if (from == null || !isLane(lane)) {
            return BAD;
        }
        int refusal = from.refusal(lane, i, book.size());
        if (refusal < 0) {
            return refusal;
        }
        if (!from.allWithin(i, book.size(), 0, MOST_ROWS - 1)) {
            return NOT;
        }
        for (int heap = 0; heap < MOST_ROWS; heap++) {
            if (!book.isWhole(from.placesOf(heap, i, book.size()))) {
                return heap;
            }
        }
        return NONE;
    }

    // ---- 3 trying, boxes, the watch

    public int tries(int heap, int x, int u) {
        if (!book.isHeap(heap) || !isNear(x, FAR) || !isNear(u, FAR_TRIED_PUSH)) {
            return BAD;
        }
        if (!book.isWhole(heap)) {
            return NONE;
        }
        trial.gather(book, heap);
        return trial.leftAtWorst(x, u, book.errorNow());
    }

    public int best(int heap, int x) {
        if (!book.isHeap(heap) || !isNear(x, FAR)) {
            return BAD - BELOW_NUMBERS;
        }
        if (!book.isWhole(heap)) {
            return NONE - BELOW_NUMBERS;
        }
        trial.gather(book, heap);
        int bestPush = 0;
        int fewestLeft = LAWS + 1;
        for (int k = 0; k <= 2 * FAR_TRIED_PUSH; k++) {
            int left = trial.leftAtWorst(x, pushInTurn(k), book.errorNow());
            if (left < fewestLeft) {
                fewestLeft = left;
                bestPush = pushInTurn(k);
            }
        }
        return bestPush;
    }

    public int apart(int law, int other, int x) {
        if (!Law.is(law) || !Law.is(other) || !isNear(x, FAR)) {
            return BAD - BELOW_NUMBERS;
        }
        for (int k = 0; k <= 2 * FAR_TRIED_PUSH; k++) {
            int u = pushInTurn(k);
            int one = Law.sum(law, x, u);
            int two = Law.sum(other, x, u);
            int e = book.errorNow();
            if (Law.leastEnd(Math.max(one, two), e) > Law.greatestEnd(Math.min(one, two), e)) {
                return u;
            }
        }
        return NONE - BELOW_NUMBERS;
    }

    public int know(int law) {
        return Law.is(law) ? known.add(law) : BAD;
    }

    public int box(int from, int to) {
        if (!isNear(from, FAR_BOX) || !isNear(to, FAR_BOX) || from > to) {
            return BAD;
        }
        held.become(from, to);
        return 1;
    }

    public int step(int u) {
        if (!isNear(u, FAR)) {
            return BAD;
        }
        if (known.size() == 0) {
            return NONE;
        }
        held.move(known, u, book.errorNow());
        return 1;
    }

    public int holds(int what) {
        if (what < 0 || what > 1) {
            return BAD - BELOW_NUMBERS;
        }
        return what == 0 ? held.least() : held.greatest();
    }

    public int brake(int u, int n, int low, int high) {
        if (!isNear(u, FAR) || n < 1 || n > MOST_BRAKE_STEPS
                || !isNear(low, FAR_BOX) || !isNear(high, FAR_BOX) || low > high) {
            return BAD;
        }
        if (known.size() == 0) {
            return NOT;
        }
        tried.become(held.least(), held.greatest());
        for (int k = 1; k <= n; k++) {
            tried.move(known, u, book.errorNow());
            if (tried.least() < low || tried.greatest() > high) {
                return k;
            }
        }
        return NONE;
    }

    public int watch(int x, int u, int y) {
        if (!isNear(x, FAR) || !isNear(u, FAR) || !isNear(y, FAR)) {
            return BAD;
        }
        if (known.size() == 0) {
            return NOT;
        }
        return known.see(x, u, y, book.errorNow());
    }

    // ---- 4 sheets

    public int sheet(int sheet, int lane, int n) {
        Sheet it = sheetAt(sheet);
        if (it == null || !isLane(lane) || n > Sheet.MOST_ITEMS) {
            return BAD;
        }
        if (n < 0) {
            return SIZE;
        }
        it.become(lane, n);
        return n;
    }

    public int drop(int sheet) {
        Sheet it = sheetAt(sheet);
        if (it == null) {
            return BAD;
        }
        return it.isNothing() ? NULL : it.empty();
    }

    public int item(int sheet, int lane, int i, int v) {
        Sheet it = sheetAt(sheet);
        if (it == null || !isLane(lane)) {
            return BAD;
        }
        int refusal = it.refusal(lane, i, 1);
        if (refusal < 0) {
            return refusal;
        }
        it.put(i, v);
        return 1;
    }

    public int copy(int from, int i, int to, int j, int n) {
        Sheet source = sheetAt(from);
        Sheet target = sheetAt(to);
        if (source == null || target == null) {
            return BAD;
        }
        if (source.isNothing() || target.isNothing()) {
            return NULL;
        }
        if (source.laneNow() != target.laneNow()) {
            return CAST;
        }
        if (!source.covers(i, n) || !target.covers(j, n)) {
            return INDEX;
        }
        target.take(j, source, i, n);
        return n;
    }

    // ---- what several calls need

    private static boolean isNear(int v, int far) {
        return v >= -far && v <= far;
    }

    private static boolean isLane(int lane) {
        return lane >= 0 && lane < LANES;
    }

    private Sheet sheetAt(int sheet) {
        return sheet >= 0 && sheet < sheets.length ? sheets[sheet] : null;
    }

    /** 0, 1, -1, 2, -2 and so on: the order in which like good pushes are preferred. */
    private static int pushInTurn(int k) {
        return k % 2 == 1 ? k / 2 + 1 : -(k / 2);
    }

    private int rests(int heap, int m) {
        int bits = 0;
        for (int r = 0; r < book.size(); r++) {
            if ((heap >> r & 1) != 0 && m > 0) {
                bits |= 1 << r % m;
            }
        }
        return bits;
    }

    /** What a law's number means: its two parts, the sums in quarters, the ends that the error allows. */
    private static final class Law {
        static boolean is(int law) {
            return law >= 0 && law < LAWS;
        }

        static int number(int a, int b) {
            return PARTS * (a + FAR_PART) + b + FAR_PART;
        }

        static int partOfState(int law) {
            return law / PARTS - FAR_PART;
        }

        static int partOfPush(int law) {
            return law % PARTS - FAR_PART;
        }

        static int sum(int law, int x, int u) {
            return partOfState(law) * x + partOfPush(law) * u;
        }

        static boolean isMet(int sum, int y, int error) {
            return Math.abs(4 * y - sum) <= 4 * error;
        }

        static int leastEnd(int sum, int error) {
            return -Math.floorDiv(-sum, 4) - error;
        }

        static int greatestEnd(int sum, int error) {
            return Math.floorDiv(sum, 4) + error;
        }
    }

    /** The rows, the error, and which rows meet each law. */
    private static final class Book {
        /** More than any height p x and q u can have: no row is lower in an empty heap. */
        private static final int NO_HEIGHT = 1000;
        /** More than any sum can be. */
        private static final int NO_SUM = 10000;

        private final int[] xs = new int[MOST_ROWS];
        private final int[] us = new int[MOST_ROWS];
        private final int[] ys = new int[MOST_ROWS];
        /** For each law the rows that meet it, as bits: nearly all questions ask for these. */
        private final int[] meeting = new int[LAWS];
        private int size = 0;
        private int gaps = 0;
        private int error = 1;

        int add(int x, int u, int y, boolean isGap) {
            int row = size;
            if (row < 0 || row >= MOST_ROWS) {
                return FULL;
            }
            xs[row] = x;
            us[row] = u;
            ys[row] = y;
            if (isGap) {
                gaps |= 1 << row;
            }
            size++;
            enter(row);
            return row;
        }

        int empty() {
            int gone = size;
            size = 0;
            gaps = 0;
            Arrays.fill(meeting, 0);
            return gone;
        }

        void takeError(int e) {
            error = e;
            Arrays.fill(meeting, 0);
            for (int row = 0; row < size; row++) {
                enter(row);
            }
        }

        private void enter(int row) {
            if (!has(row)) {
                return;
            }
            for (int law = 0; law < meeting.length; law++) {
                if (isGap(row) || Law.isMet(Law.sum(law, xs[row], us[row]), ys[row], error)) {
                    meeting[law] |= 1 << row;
                }
            }
        }

        int size() {
            return size;
        }

        int room() {
            return MOST_ROWS - size;
        }

        int errorNow() {
            return error;
        }

        int gapCount() {
            return Integer.bitCount(gaps);
        }

        boolean has(int row) {
            return row >= 0 && row < size && row < MOST_ROWS;
        }

        int state(int row) {
            return has(row) ? xs[row] : 0;
        }

        int push(int row) {
            return has(row) ? us[row] : 0;
        }

        int end(int row) {
            return has(row) ? ys[row] : 0;
        }

        boolean isGap(int row) {
            return has(row) && (gaps >> row & 1) != 0;
        }

        int all() {
            return (1 << size) - 1;
        }

        boolean isHeap(int heap) {
            return heap >= 0 && heap <= all();
        }

        int rowsMeeting(int law) {
            return law >= 0 && law < meeting.length ? meeting[law] : 0;
        }

        boolean letsLaw(int heap, int law) {
            return (rowsMeeting(law) & heap) == heap;
        }

        boolean isWhole(int heap) {
            return lawOf(heap, 0) != NONE;
        }

        int lawCount(int heap) {
            int n = 0;
            for (int law = 0; law < LAWS; law++) {
                if (letsLaw(heap, law)) {
                    n++;
                }
            }
            return n;
        }

        int lawOf(int heap, int i) {
            int before = 0;
            for (int law = 0; law < LAWS; law++) {
                if (letsLaw(heap, law)) {
                    if (before == i) {
                        return law;
                    }
                    before++;
                }
            }
            return NONE;
        }

        int leastSum(int heap, int x, int u) {
            int least = NO_SUM;
            for (int law = 0; law < LAWS; law++) {
                if (letsLaw(heap, law)) {
                    least = Math.min(least, Law.sum(law, x, u));
                }
            }
            return least;
        }

        int leastHeight(int heap, int p, int q) {
            int least = NO_HEIGHT;
            for (int row = 0; row < size && row < MOST_ROWS; row++) {
                if ((heap >> row & 1) != 0) {
                    least = Math.min(least, p * xs[row] + q * us[row]);
                }
            }
            return least;
        }
    }

    /** By how few laws heaps of one book are met; kept until told to forget. */
    private static final class Partings {
        /** Some row of the heap meets no law; more than any number of laws that is needed. */
        private static final int NEVER = 100;

        /** The greatest heaps that are whole: every whole heap lies within one. */
        private final int[] greatest = new int[LAWS];
        private int greatestCount = 0;
        /** For each heap the least number of laws so that each of its rows meets one. */
        private final byte[] laws = new byte[1 << MOST_ROWS];
        /** The heaps of so many first rows are counted; later rows leave those as they are. */
        private int rowsCounted = 0;

        void forget() {
            rowsCounted = 0;
        }

        int leastLaws(Book book) {
            countHeaps(book);
            int n = lawsFor(book.all());
            return n >= NEVER ? NONE : n;
        }

        int leftOut(Book book, int k) {
            countHeaps(book);
            int kept = 0;
            // Heaps rise, so of like many rows the last kept heap leaves out the least bits.
            for (int heap = 0; heap <= book.all(); heap++) {
                if (lawsFor(heap) <= k && Integer.bitCount(heap) >= Integer.bitCount(kept)) {
                    kept = heap;
                }
            }
            return book.all() & ~kept;
        }

        int howTogether(Book book, int a, int b) {
            int n = leastLaws(book);
            if (n < 0) {
                return NONE;
            }
            if (!canBeTogether(book.all(), 1 << a | 1 << b, n)) {
                return 0;
            }
            return canBeApart(book.all(), 1 << a, 1 << b, n) ? 1 : 2;
        }

        private boolean canBeTogether(int all, int both, int n) {
            for (int i = 0; i < greatestCount && i < greatest.length; i++) {
                if ((greatest[i] & both) == both && lawsFor(all & ~greatest[i]) < n) {
                    return true;
                }
            }
            return false;
        }

        /** Rows in two heaps at once may be taken from either, for less of a whole heap is whole. */
        private boolean canBeApart(int all, int one, int other, int n) {
            for (int i = 0; i < greatestCount && i < greatest.length; i++) {
                if ((greatest[i] & one) != 0 && canBeBeside(all & ~greatest[i], other, n)) {
                    return true;
                }
            }
            return false;
        }

        private boolean canBeBeside(int rest, int other, int n) {
            for (int i = 0; i < greatestCount && i < greatest.length; i++) {
                if ((greatest[i] & other) != 0 && lawsFor(rest & ~greatest[i]) < n - 1) {
                    return true;
                }
            }
            return false;
        }

        private int lawsFor(int heap) {
            return heap >= 0 && heap < laws.length ? laws[heap] : NEVER;
        }

        private void countHeaps(Book book) {
            if (rowsCounted == book.size()) {
                return;
            }
            findGreatest(book);
            for (int heap = 1 << rowsCounted; heap <= book.all() && heap < laws.length; heap++) {
                laws[heap] = (byte) countLaws(heap);
            }
            rowsCounted = book.size();
        }

        /** The lowest row must be met by some law; what that law leaves is a lower heap, counted already. */
        private int countLaws(int heap) {
            int lowest = heap & -heap;
            int least = NEVER;
            for (int i = 0; i < greatestCount && i < greatest.length; i++) {
                if ((greatest[i] & lowest) != 0) {
                    least = Math.min(least, 1 + lawsFor(heap & ~greatest[i]));
                }
            }
            return least;
        }

        private void findGreatest(Book book) {
            greatestCount = 0;
            for (int law = 0; law < LAWS; law++) {
                int heap = book.rowsMeeting(law);
                if (!isWithinGreatest(heap)) {
                    dropWithin(heap);
                    keep(heap);
                }
            }
        }

        private void keep(int heap) {
            if (greatestCount >= 0 && greatestCount < greatest.length) {
                greatest[greatestCount] = heap;
                greatestCount++;
            }
        }

        private boolean isWithinGreatest(int heap) {
            for (int i = 0; i < greatestCount && i < greatest.length; i++) {
                if ((heap & ~greatest[i]) == 0) {
                    return true;
                }
            }
            return false;
        }

        private void dropWithin(int heap) {
            int kept = 0;
            for (int i = 0; i < greatestCount && i < greatest.length; i++) {
                if ((greatest[i] & ~heap) != 0 && kept < greatest.length) {
                    greatest[kept] = greatest[i];
                    kept++;
                }
            }
            greatestCount = kept;
        }
    }

    /** Typed bytes, and how they are read as rows. */
    private static final class Tape {
        private static final int MOST_BYTES = 120;
        private static final int FIRST_FAULT = -20;
        private static final int END = -1;

        private final int[] bytes = new int[MOST_BYTES];
        private int length = 0;
        /** The rows of the text, three numbers each, kept apart until no fault can come. */
        private final int[] numbers = new int[3 * MOST_ROWS];
        private int gaps = 0;
        private int rowsRead = 0;
        private int at = 0;
        private int fault = 0;

        int append(long w, int n) {
            if (n < 1 || n > 8) {
                return BAD;
            }
            for (int k = 0; k < n; k++) {
                if (byteOf(w, k) < 32 || byteOf(w, k) > 126) {
                    return BAD;
                }
            }
            if (n > MOST_BYTES - length) {
                return FULL;
            }
            for (int k = n - 1; k >= 0 && length < MOST_BYTES; k--) {
                bytes[length] = byteOf(w, k);
                length++;
            }
            return length;
        }

        private static int byteOf(long w, int k) {
            return (int) (w >> 8 * k & 255);
        }

        /** How many rows the text has, or its fault; the tape is empty then. */
        int read(int room) {
            at = 0;
            gaps = 0;
            rowsRead = 0;
            boolean isRows = readAll(room);
            length = 0;
            return isRows ? rowsRead : FIRST_FAULT - fault;
        }

        void hand(int k, Book book) {
            if (k >= 0 && k < rowsRead && k < MOST_ROWS) {
                book.add(numbers[3 * k], numbers[3 * k + 1], numbers[3 * k + 2], (gaps >> k & 1) != 0);
            }
        }

        private boolean readAll(int room) {
            for (int k = 0; k <= room; k++) {
                if (!readRow(room)) {
                    return false;
                }
                if (look() == END) {
                    return true;
                }
                if (!pass(';')) {
                    return false;
                }
            }
            return false;
        }

        private boolean readRow(int room) {
            look();
            if (rowsRead >= room || rowsRead >= MOST_ROWS) {
                return refuse(at);
            }
            int first = 3 * rowsRead;
            if (pass('x') && readNumber(first) && pass('u') && readNumber(first + 1) && pass('y') && readEnd(first + 2)) {
                rowsRead++;
                return true;
            }
            return false;
        }

        private boolean readEnd(int into) {
            if (look() != '?') {
                return readNumber(into);
            }
            gaps |= 1 << rowsRead;
            store(into, 0);
            return pass('?');
        }

        private boolean readNumber(int into) {
            look();
            int first = at;
            boolean isBelow = look() == '-';
            if (isBelow) {
                at++;
            }
            if (!isDigit(look())) {
                return refuse(at);
            }
            int size = 0;
            // A blank ends the number, so the bytes are taken here without passing blanks.
            while (at < length && at < MOST_BYTES && isDigit(bytes[at])) {
                size = Math.min(10 * size + bytes[at] - '0', FAR + 1);
                at++;
            }
            if (size > FAR) {
                return refuse(first);
            }
            store(into, isBelow ? -size : size);
            return true;
        }

        private void store(int into, int v) {
            if (into >= 0 && into < numbers.length) {
                numbers[into] = v;
            }
        }

        private static boolean isDigit(int sign) {
            return sign >= '0' && sign <= '9';
        }

        /** The next byte behind blanks, which stays to be taken, or the end. */
        private int look() {
            while (at < length && at < MOST_BYTES && bytes[at] == ' ') {
                at++;
            }
            return at < length && at < MOST_BYTES ? bytes[at] : END;
        }

        private boolean pass(char sign) {
            if (look() != sign) {
                return refuse(at);
            }
            at++;
            return true;
        }

        private boolean refuse(int place) {
            fault = place;
            return false;
        }
    }

    /** What a push would leave of the laws that a heap lets. */
    private static final class Trial {
        /** No end within the error of a tried row's sum is farther from 0: 8 (99 and 9) by 4, and 20. */
        private static final int FAR_END = 236;

        private final int[] laws = new int[LAWS];
        private int lawCount = 0;
        /** At each end, how many more laws are met there than at the end before it. */
        private final int[] more = new int[2 * FAR_END + 2];

        void gather(Book book, int heap) {
            lawCount = 0;
            for (int law = 0; law < laws.length; law++) {
                if (book.letsLaw(heap, law) && lawCount < laws.length) {
                    laws[lawCount] = law;
                    lawCount++;
                }
            }
        }

        int leftAtWorst(int x, int u, int error) {
            Arrays.fill(more, 0);
            for (int i = 0; i < lawCount && i < laws.length; i++) {
                int sum = Law.sum(laws[i], x, u);
                add(Law.leastEnd(sum, error), 1);
                add(Law.greatestEnd(sum, error) + 1, -1);
            }
            int met = 0;
            int most = 0;
            for (int i = 0; i < more.length; i++) {
                met += more[i];
                most = Math.max(most, met);
            }
            return most;
        }

        private void add(int end, int n) {
            int i = end + FAR_END;
            if (i >= 0 && i < more.length) {
                more[i] += n;
            }
        }
    }

    /** The known laws, and the watch over which of them may be. */
    private static final class Known {
        private static final int MOST = 4;
        private static final int RING = 16;

        private final int[] laws = new int[MOST];
        private int size = 0;
        private int mayBe = 0;
        private int watched = 0;
        private int rang = 0;

        int add(int law) {
            for (int i = 0; i < size && i < MOST; i++) {
                if (laws[i] == law) {
                    return NOT;
                }
            }
            int number = size;
            if (number < 0 || number >= MOST) {
                return FULL;
            }
            laws[number] = law;
            size++;
            mayBe = all();
            return number;
        }

        int size() {
            return size;
        }

        int lawAt(int i) {
            return i >= 0 && i < size && i < MOST ? laws[i] : 0;
        }

        int watchedCount() {
            return watched;
        }

        int rangCount() {
            return rang;
        }

        int see(int x, int u, int y, int error) {
            int met = 0;
            for (int i = 0; i < size && i < MOST; i++) {
                if (Law.isMet(Law.sum(laws[i], x, u), y, error)) {
                    met |= 1 << i;
                }
            }
            watched++;
            if ((mayBe & met) != 0) {
                mayBe &= met;
                return mayBe;
            }
            rang++;
            mayBe = met != 0 ? met : all();
            return RING + mayBe;
        }

        private int all() {
            return (1 << size) - 1;
        }
    }

    /** A span of states. */
    private static final class Box {
        private int low = 0;
        private int high = 0;

        void become(int from, int to) {
            low = from;
            high = to;
        }

        int least() {
            return low;
        }

        int greatest() {
            return high;
        }

        /** By all known laws at once; there is one, or the box stays. */
        void move(Known known, int u, int error) {
            if (known.size() == 0) {
                return;
            }
            int least = Law.sum(known.lawAt(0), low, u);
            int most = least;
            for (int i = 0; i < known.size(); i++) {
                int one = Law.sum(known.lawAt(i), low, u);
                int other = Law.sum(known.lawAt(i), high, u);
                least = Math.min(least, Math.min(one, other));
                most = Math.max(most, Math.max(one, other));
            }
            low = within(Math.floorDiv(least, 4) - error);
            high = within(error - Math.floorDiv(-most, 4));
        }

        private static int within(int state) {
            return Math.max(-FAR_BOX, Math.min(FAR_BOX, state));
        }
    }

    /** A sheet: nothing, or a row of a lane. */
    private static final class Sheet {
        private static final int MOST_ITEMS = 36;
        private static final int NOTHING = -1, BYTES = 0, SHORTS = 1;

        private final int[] items = new int[MOST_ITEMS];
        private int lane = NOTHING;
        private int size = 0;

        void become(int newLane, int n) {
            lane = newLane;
            size = Math.max(0, Math.min(n, MOST_ITEMS));
            Arrays.fill(items, 0);
        }

        int empty() {
            int had = size;
            lane = NOTHING;
            size = 0;
            return had;
        }

        boolean isNothing() {
            return lane == NOTHING;
        }

        int laneNow() {
            return lane;
        }

        boolean covers(int from, int n) {
            return from >= 0 && n >= 0 && from <= size - n;
        }

        /** Why n items can't be taken from the sheet as a row of a lane; 0 if they can. */
        int refusal(int asLane, int from, int n) {
            if (isNothing()) {
                return NULL;
            }
            if (lane != asLane) {
                return CAST;
            }
            return covers(from, n) ? 0 : INDEX;
        }

        int at(int i) {
            return i >= 0 && i < size && i < MOST_ITEMS ? items[i] : 0;
        }

        void put(int i, int v) {
            if (i >= 0 && i < size && i < MOST_ITEMS) {
                items[i] = lane == BYTES ? (byte) v : lane == SHORTS ? (short) v : v;
            }
        }

        void take(int j, Sheet source, int i, int n) {
            if (covers(j, n) && source.covers(i, n)) {
                System.arraycopy(source.items, i, items, j, n);
            }
        }

        boolean allWithin(int from, int n, int low, int high) {
            for (int k = 0; k < n; k++) {
                if (at(from + k) < low || at(from + k) > high) {
                    return false;
                }
            }
            return true;
        }

        /** Which of n items from one on are v, as bits. */
        int placesOf(int v, int from, int n) {
            int bits = 0;
            for (int k = 0; k < n && k < MOST_ROWS; k++) {
                if (at(from + k) == v) {
                    bits |= 1 << k;
                }
            }
            return bits;
        }
    }
}
