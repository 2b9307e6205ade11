/** Edges of promises 13 to 20, a method for each sentence of the document that names one. */
public final class HeapsEdgesTest {
    private static final int BAD = TwoLaws.BAD, NOT = TwoLaws.NOT, NONE = TwoLaws.NONE;
    private static final int NULL = TwoLaws.NULL, CAST = TwoLaws.CAST, INDEX = TwoLaws.INDEX;
    private static final int GAP = Works.GAP;

    public static void main(String[] args) {
        fewestWithoutRows();
        fewestNone();
        fewestUpToTwelve();
        letGoBounds();
        letGoForNoLaw();
        letGoNone();
        letGoLeastBits();
        togetherBounds();
        togetherOneRow();
        togetherNone();
        togetherOfTwoRows();
        togetherInSome();
        togetherOfOtherRows();
        spanBounds();
        spanNone();
        spanAtTheEnds();
        lineBounds();
        lineOfRowsInBoth();
        lineNone();
        lineAtTheLine();
        lineOfEmptyHeaps();
        lineFirst();
        lineNumbersAtTheEnds();
        hoursBounds();
        hoursNone();
        hoursOfEmptyHeaps();
        hoursAtTheEnds();
        wearBounds();
        wearNot();
        wearNone();
        wearFirstAndLast();
        wearAtTheError();
        checkBounds();
        checkNullAndCast();
        checkIndex();
        checkNot();
        checkNone();
        checkFirst();
        checkOrder();
        Due.end();
    }

    private static TwoLaws unlike(int n) {
        TwoLaws t = Works.byEnds();
        for (int k = 0; k < n; k++) {
            t.row(4, 0, k - 8);
        }
        return t;
    }

    /** Rows whose states and pushes alone matter: x, u by turns. */
    private static TwoLaws at(int... places) {
        TwoLaws t = new TwoLaws();
        for (int k = 0; k + 1 < places.length; k += 2) {
            t.row(places[k], places[k + 1], 0);
        }
        return t;
    }

    /** Terms: FEWEST is "0 without ROWS". */
    private static void fewestWithoutRows() {
        Edges.taken("13: fresh", 0, Works::fresh, TwoLaws::fewest);
        TwoLaws t = Works.byEnds(1, 2);
        t.fewest();
        t.clear();
        Due.be("13: all rows went", 0, t.fewest());
        Due.be("13: one gap is a row", 1, Works.byEnds(GAP).fewest());
    }

    /** Promise 13: "NONE"; Terms: "none, if some ROW MEETS no LAW". */
    private static void fewestNone() {
        Edges.taken("13: the greatest end that is met", 1, () -> Works.byEnds(8), TwoLaws::fewest);
        Edges.refused("13: the next is not", NONE, () -> Works.byEnds(9), TwoLaws::fewest);
        Edges.taken("13: the least end that is met", 1, () -> Works.byEnds(-8), TwoLaws::fewest);
        Edges.refused("13: the next is not", NONE, () -> Works.byEnds(-9), TwoLaws::fewest);
        Edges.refused("13: the first alone is not met", NONE, () -> Works.byEnds(9, 1, 1, GAP), TwoLaws::fewest);
        Edges.refused("13: the last of twelve is not met", NONE, () -> Works.byEnds(1, 1, 1, 1, 1, 1, 1, 1, 1, 1, GAP, 9), TwoLaws::fewest);
        TwoLaws t = Works.byEnds(9);
        t.error(1);
        Due.be("13: met within another error", 1, t.fewest());
    }

    /** Terms: "the least number of LAWS", from 1 up to a law a row. */
    private static void fewestUpToTwelve() {
        for (int n = 1; n <= 12; n++) {
            Due.be("13: " + n + " unlike rows", n, unlike(n).fewest());
        }
        Due.be("13: twelve gaps", 1, Works.byEnds(GAP, GAP, GAP, GAP, GAP, GAP, GAP, GAP, GAP, GAP, GAP, GAP).fewest());
        Due.be("13: twelve of one law", 1, Works.byEnds(3, 3, 3, 3, 3, 3, 3, 3, 3, 3, 3, 3).fewest());
    }

    /** Promise 14: "k LAWS (0 .. 6): how many (0), which, as bits (1). BAD." */
    private static void letGoBounds() {
        for (int what = 0; what <= 1; what++) {
            int as = what;
            Edges.between("14: k", 0, 6, BAD, Works::lived, (t, v) -> t.letGo(v, as));
            Edges.between("14: k without rows", 0, 6, BAD, Works::fresh, (t, v) -> t.letGo(v, as));
        }
        Edges.between("14: what", 0, 1, BAD, Works::lived, (t, v) -> t.letGo(1, v));
        Edges.between("14: what of a full one", 0, 1, BAD, Works::full, (t, v) -> t.letGo(6, v));
        Due.be("14: six laws of twelve", 6, unlike(12).letGo(6, 0));
        Due.be("14: which", 0b000000111111, unlike(12).letGo(6, 1));
    }

    /** Terms: "ROWS that MEET none of k LAWS": of no law all rows, gaps too. */
    private static void letGoForNoLaw() {
        Due.be("14: no law, no row", 0, Works.byEnds().letGo(0, 0));
        Due.be("14: no law, no row, which", 0, Works.byEnds().letGo(0, 1));
        Due.be("14: no law, a row and a gap", 2, Works.byEnds(1, GAP).letGo(0, 0));
        Due.be("14: no law, a row and a gap, which", 3, Works.byEnds(1, GAP).letGo(0, 1));
        Due.be("14: no law, twelve rows, which", 4095, Works.full().letGo(0, 1));
    }

    /** Terms: the "fewest": none, as soon as k is as many as are needed; never those that meet some law of k. */
    private static void letGoNone() {
        for (int k = 1; k <= 6; k++) {
            Due.be("14: just enough laws, " + k, 0, unlike(k).letGo(k, 0));
            Due.be("14: just enough laws, which, " + k, 0, unlike(k).letGo(k, 1));
            Due.be("14: one law too few, " + k, 1, unlike(k + 1).letGo(k, 0));
        }
        Due.be("14: more laws than rows", 0, unlike(2).letGo(6, 0));
        Due.be("14: a row that meets no law", 1, Works.byEnds(1, 9).letGo(6, 0));
        Due.be("14: a row that meets no law, which", 2, Works.byEnds(1, 9).letGo(6, 1));
        Due.be("14: a gap is never let go for one law", 0, Works.byEnds(GAP).letGo(1, 0));
    }

    /** Terms: "of like many the least bits". */
    private static void letGoLeastBits() {
        Due.be("14: row 0 of two", 0b01, Works.byEnds(1, 2).letGo(1, 1));
        Due.be("14: rows 0, 1 of three", 0b011, Works.byEnds(1, 2, 3).letGo(1, 1));
        Due.be("14: fewer rows before less bits", 0b100, Works.byEnds(1, 1, 2).letGo(1, 1));
        Due.be("14: the least number, not the lowest row", 0b0110, Works.byEnds(1, 2, 2, 1).letGo(1, 1));
        Due.be("14: eleven of twelve", 0b011111111111, unlike(12).letGo(1, 1));
        Due.be("14: for two laws", 0b0011, Works.byEnds(1, 2, 3, 4).letGo(2, 1));
    }

    /** Promise 15: "BAD" of either row. */
    private static void togetherBounds() {
        Edges.between("15: the one", 0, 4, BAD, Works::lived, (t, v) -> t.together(v, 2));
        Edges.between("15: the other", 0, 4, BAD, Works::lived, (t, v) -> t.together(2, v));
        Edges.refused("15: one row too far", BAD, Works::lived, t -> t.together(0, 5));
        Edges.refused("15: one row too far, first", BAD, Works::lived, t -> t.together(5, 0));
        Edges.taken("15: the twelfth", 1, Works::full, t -> t.together(0, 11));
        Edges.refused("15: a thirteenth", BAD, Works::full, t -> t.together(0, 12));
    }

    /** Promise 15: "BAD: also one ROW". */
    private static void togetherOneRow() {
        for (int r = 0; r < 5; r++) {
            int one = r;
            Edges.refused("15: row " + r + " and itself", BAD, Works::lived, t -> t.together(one, one));
        }
        Edges.refused("15: no such row and itself", BAD, Works::lived, t -> t.together(5, 5));
        Edges.refused("15: one row, BAD before NONE", BAD, () -> Works.byEnds(9, 1), t -> t.together(1, 1));
    }

    /** Promise 15: "NONE: there is no PARTING"; BAD is named first. */
    private static void togetherNone() {
        Edges.refused("15: a third row meets no law", NONE, () -> Works.byEnds(1, 1, 9), t -> t.together(0, 1));
        Edges.refused("15: both meet no law", NONE, () -> Works.byEnds(9, 9), t -> t.together(0, 1));
        Edges.refused("15: BAD before NONE", BAD, () -> Works.byEnds(9, 9), t -> t.together(0, 2));
        Edges.refused("15: BAD below before NONE", BAD, () -> Works.byEnds(9, 9), t -> t.together(-1, 0));
    }

    /** Terms: "2 in all PARTINGS, 1 in some, 0 in none"; a parting is in FEWEST heaps. */
    private static void togetherOfTwoRows() {
        Due.be("15: one heap is enough", 2, Works.byEnds(1, 1).together(0, 1));
        Due.be("15: two gaps in one heap", 2, Works.byEnds(GAP, GAP).together(0, 1));
        Due.be("15: two heaps are needed", 0, Works.byEnds(1, 2).together(1, 0));
        Due.be("15: a gap in either of two", 1, Works.byEnds(1, 2, GAP).together(0, 2));
        Due.be("15: two gaps beside two heaps", 1, Works.byEnds(1, 2, GAP, GAP).together(2, 3));
        Due.be("15: like rows might be in two heaps, but not of the fewest", 2, Works.byEnds(1, 1, 2).together(0, 1));
        Due.be("15: twelve unlike rows", 0, unlike(12).together(10, 11));
    }

    /** Terms: "1 in some": two partings that have no heap in common. */
    private static void togetherInSome() {
        TwoLaws t = Works.byEnds();
        t.row(1, -1, 0);
        t.row(4, 0, 0);
        t.row(0, 4, 1);
        t.row(4, 0, 8);
        Due.be("15: two heaps", 2, t.fewest());
        HeapsTest.pairs("0 with 3 or with 1", t, 1, 0, 1, 1, 0, 1);
    }

    /** Terms: "all ROWS": none that went. */
    private static void togetherOfOtherRows() {
        TwoLaws t = Works.byEnds(3, 3, 1, 2);
        HeapsTest.pairs("0 with 1", t, 2, 0, 0, 0, 0, 0);
        t.clear();
        t.row(4, 0, 1);
        t.row(4, 0, 2);
        Due.be("15: other rows, fewest", 2, t.fewest());
        HeapsTest.pairs("other rows", t, 0);
        t = Works.byEnds(1, 3, 3, 2);
        HeapsTest.pairs("1 with 2", t, 0, 0, 0, 2, 0, 0);
        t.clear();
        t.row(4, 0, 1);
        t.row(4, 0, 1);
        t.row(4, 0, 2);
        HeapsTest.pairs("other rows, 0 with 1", t, 2, 0, 0);
    }

    /** Promise 16: "BAD less 1000000" of the heap, x, u, what. */
    private static void spanBounds() {
        Edges.between("16: the heap", 0, 7, Edges.BAD_BELOW, () -> Works.byEnds(3, 3, 3), (t, v) -> t.span(v, 1, 1, 0));
        Edges.between("16: the heap without rows", 0, 0, Edges.BAD_BELOW, Works::fresh, (t, v) -> t.span(v, 1, 1, 0));
        Edges.between("16: the heap of a full one", 0, 4095, Edges.BAD_BELOW, Works::full, (t, v) -> t.span(v, 1, 1, 0));
        Edges.between("16: x", -99, 99, Edges.BAD_BELOW, Works::lived, (t, v) -> t.span(1, v, 1, 0));
        Edges.between("16: u", -99, 99, Edges.BAD_BELOW, Works::lived, (t, v) -> t.span(1, 1, v, 1));
        Edges.between("16: what", 0, 1, Edges.BAD_BELOW, Works::lived, (t, v) -> t.span(1, 1, 1, v));
    }

    /** Promise 16: "NONE less that: the HEAP is not WHOLE"; BAD is named first. */
    private static void spanNone() {
        Edges.refused("16: not whole, least", Edges.NONE_BELOW, Works::lived, t -> t.span(9, 1, 1, 0));
        Edges.refused("16: not whole, greatest", Edges.NONE_BELOW, Works::lived, t -> t.span(9, 1, 1, 1));
        Edges.refused("16: a row that meets no law", Edges.NONE_BELOW, () -> Works.byEnds(9), t -> t.span(1, 0, 0, 0));
        Edges.refused("16: BAD what before NONE", Edges.BAD_BELOW, Works::lived, t -> t.span(9, 1, 1, 2));
        Edges.refused("16: BAD x before NONE", Edges.BAD_BELOW, Works::lived, t -> t.span(9, 100, 1, 0));
        Edges.refused("16: BAD u before NONE", Edges.BAD_BELOW, Works::lived, t -> t.span(9, 1, -100, 0));
    }

    /** Terms: "the least and greatest a x and b u together (quarters) over LAWS that it lets". */
    private static void spanAtTheEnds() {
        for (int k = 0; k < 4; k++) {
            int x = k % 2 == 0 ? -99 : 99;
            int u = k / 2 == 0 ? -99 : 99;
            Due.be("16: the least of all laws", -1584, Works.fresh().span(0, x, u, 0));
            Due.be("16: the greatest of all laws", 1584, Works.fresh().span(0, x, u, 1));
            TwoLaws t = Works.byEnds(8);
            t.row(0, 4, -8);
            Due.be("16: of one law, least", 8 * x - 8 * u, t.span(3, x, u, 0));
            Due.be("16: of one law, greatest", 8 * x - 8 * u, t.span(3, x, u, 1));
        }
        Due.be("16: of nothing, least", 0, Works.fresh().span(0, 0, 0, 0));
        Due.be("16: of nothing, greatest", 0, Works.fresh().span(0, 0, 0, 1));
    }

    /** Promise 17: "BAD less 1000000" of either heap, what. */
    private static void lineBounds() {
        Edges.between("17: the one", 0, 31, Edges.BAD_BELOW, Works::lived, (t, v) -> t.line(v, 0, 0));
        Edges.between("17: the other", 0, 31, Edges.BAD_BELOW, Works::lived, (t, v) -> t.line(0, v, 0));
        Edges.between("17: the one of a full one", 0, 4095, Edges.BAD_BELOW, Works::full, (t, v) -> t.line(v, 0, 0));
        Edges.between("17: the other without rows", 0, 0, Edges.BAD_BELOW, Works::fresh, (t, v) -> t.line(0, v, 0));
        Edges.between("17: what", 0, 2, Edges.BAD_BELOW, Works::lived, (t, v) -> t.line(1, 2, v));
    }

    /** Promise 17: "BAD ...: also HEAPS with a ROW in both". */
    private static void lineOfRowsInBoth() {
        Edges.refused("17: one row in both", Edges.BAD_BELOW, Works::lived, t -> t.line(1, 1, 0));
        Edges.refused("17: the last row in both", Edges.BAD_BELOW, Works::lived, t -> t.line(0b11000, 0b10111, 2));
        Edges.refused("17: the twelfth in both", Edges.BAD_BELOW, Works::full, t -> t.line(4095, 2048, 1));
        Edges.taken("17: beside one another", -3, () -> at(0, 0, 1, 0), t -> t.line(1, 2, 0));
    }

    private static void lineIs(String name, TwoLaws t, int one, int other, int... pqr) {
        for (int what = 0; what <= 2; what++) {
            Due.be("17: " + name + ", " + "pqr".charAt(what), pqr[what], t.line(one, other, what));
        }
    }

    /** Promise 17: "NONE less that"; BAD is named first. */
    private static void lineNone() {
        for (int what = 0; what <= 2; what++) {
            int as = what;
            Edges.refused("17: of one place", Edges.NONE_BELOW, () -> at(5, 5, 5, 5), t -> t.line(1, 2, as));
            Edges.refused("17: between two", Edges.NONE_BELOW, () -> at(0, 0, -1, 0, 1, 0), t -> t.line(1, 6, as));
        }
        Edges.refused("17: BAD what before NONE", Edges.BAD_BELOW, () -> at(5, 5, 5, 5), t -> t.line(1, 2, 3));
        Edges.refused("17: BAD heap before NONE", Edges.BAD_BELOW, () -> at(5, 5, 5, 5), t -> t.line(1, 6, 0));
        Edges.refused("17: a row in both before NONE", Edges.BAD_BELOW, () -> at(5, 5, 5, 5), t -> t.line(3, 2, 0));
    }

    /** Terms: "is r or more for all ROWS of the first one, less for all of the second one". */
    private static void lineAtTheLine() {
        lineIs("1 is r, 0 is less", at(-1, 1, 0, 0), 1, 2, -3, -2, 1);
        lineIs("one is on the line, one far", at(-1, 1, 0, 0, -50, 0), 5, 2, -3, -2, 1);
        lineIs("all of the second are less", at(-9, 9, 0, 0, -1, 1), 1, 6, -3, -2, 2);
        lineIs("3 is more than r", at(-1, 0, 0, 0), 1, 2, -3, -3, 1);
    }

    /** Terms: a line of heaps without rows: "r (-99 .. 99)", the least. */
    private static void lineOfEmptyHeaps() {
        lineIs("both empty", Works.fresh(), 0, 0, -3, -3, -99);
        lineIs("both empty, rows beside", Works.full(), 0, 0, -3, -3, -99);
        lineIs("the second empty", at(0, 0), 1, 0, -3, -3, -99);
        lineIs("the first empty", at(0, 0), 0, 1, -3, -3, 1);
    }

    /** Terms: "The first LINE: the least p, then q, then r." */
    private static void lineFirst() {
        lineIs("p above 0", at(0, 0, 1, 0), 2, 1, 1, -3, 1);
        lineIs("q above 0, p still the least", at(0, 0, 0, 1), 2, 1, -3, 1, 1);
        lineIs("p before q", at(0, 0, 1, 1), 2, 1, -2, 3, 1);
        lineIs("the least r of several", at(0, 0, -9, -9), 2, 1, -3, -3, 1);
    }

    /** Terms: "p, q (-3 .. 3 each), r (-99 .. 99)". */
    private static void lineNumbersAtTheEnds() {
        lineIs("q is 3", at(0, 0, 2, 3), 2, 1, -3, 3, 1);
        lineIs("p is 3, q 2", at(0, 0, 2, -3, -1, 1, 1, -2), 3, 12, 3, 2, 0);
        lineIs("p is 3, q -2", at(0, 0, 2, 3, -1, -1, 1, 2), 3, 12, 3, -2, 0);
        lineIs("r is -99, and the first just so", at(33, 0), 1, 0, -3, -3, -99);
        lineIs("r were -102", at(34, 0), 1, 0, -2, -3, -99);
        lineIs("r is 99", at(-32, -1), 0, 1, -3, -2, 99);
        lineIs("r were 100", at(-33, 0), 0, 1, -2, -3, 67);
        lineIs("none of -3 .. 3 parts", at(0, 0, 3, -4, -1, 1, 2, -3), 3, 12, Edges.NONE_BELOW, Edges.NONE_BELOW, Edges.NONE_BELOW);
    }

    private static TwoLaws twelve() {
        return at(1, 1, 1, 1, 1, 1, 1, 1, 1, 1, 1, 1, 1, 1, 1, 1, 1, 1, 1, 1, 1, 1, 1, 1);
    }

    /** Promise 18: "BAD" of either heap. */
    private static void hoursBounds() {
        Edges.between("18: the one", 0, 31, BAD, Works::lived, (t, v) -> t.hours(v, 0));
        Edges.between("18: the other", 0, 31, BAD, Works::lived, (t, v) -> t.hours(0, v));
        Edges.between("18: the one of a full one", 0, 4095, BAD, Works::full, (t, v) -> t.hours(v, 1));
        Edges.between("18: the other without rows", 0, 0, BAD, Works::fresh, (t, v) -> t.hours(0, v));
    }

    /** Promise 18: "NONE"; BAD is named first. */
    private static void hoursNone() {
        Edges.refused("18: a row in both", NONE, Works::lived, t -> t.hours(1, 1));
        Edges.refused("18: 0 beside 4, 5, 6", NONE, HeapsEdgesTest::twelve, t -> t.hours(1, 0b1110000));
        Edges.refused("18: 4, 5, 6 beside 0", NONE, HeapsEdgesTest::twelve, t -> t.hours(0b1110000, 1));
        Edges.refused("18: BAD before NONE", BAD, Works::lived, t -> t.hours(33, 1));
        Edges.refused("18: the other BAD before NONE", BAD, Works::lived, t -> t.hours(1, 33));
    }

    /** Terms: "no ROW of the first HEAP": by 1, if either has none. */
    private static void hoursOfEmptyHeaps() {
        Due.be("18: both empty", 1, Works.fresh().hours(0, 0));
        Due.be("18: the first empty", 1, Works.full().hours(0, 4095));
        Due.be("18: the second empty", 1, Works.full().hours(4095, 0));
    }

    /** Terms: "the least m (1 .. 6)"; "the same rest (its number by m)". */
    private static void hoursAtTheEnds() {
        Due.be("18: by 2", 2, twelve().hours(0b010101010101, 0b101010101010));
        Due.be("18: by 3", 3, twelve().hours(0b001001001001, 0b110110110110));
        Due.be("18: by 4", 4, twelve().hours(1 << 11, 1 << 5));
        Due.be("18: by 5", 5, twelve().hours(1, 1 << 4 | 1 << 9));
        Due.be("18: by 6", 6, twelve().hours(1, 1 << 4 | 1 << 5 | 1 << 9));
        Due.be("18: 7 parts them, but is too many", NONE, twelve().hours(1, 1 << 4 | 1 << 5 | 1 << 6));
        Due.be("18: the first and the last row", 2, twelve().hours(1, 1 << 11));
    }

    /** Promise 19: "BAD" of the law; "steps (-1 .. 1 to a, to b, not both 0)". */
    private static void wearBounds() {
        Edges.between("19: the law", 0, 288, BAD, Works::lived, (t, v) -> t.wear(v, v == 0 ? 1 : -1, 0));
        Edges.between("19: to a", -1, 1, BAD, Works::lived, (t, v) -> t.wear(144, v, 1));
        Edges.between("19: to b", -1, 1, BAD, Works::lived, (t, v) -> t.wear(144, -1, v));
        Edges.refusedAlways("19: both 0", BAD, t -> t.wear(144, 0, 0));
        Edges.refusedAlways("19: both 0 at the end", BAD, t -> t.wear(288, 0, 0));
        Edges.taken("19: a alone", 0, Works::fresh, t -> t.wear(144, 1, 0));
        Edges.taken("19: b alone", 0, Works::fresh, t -> t.wear(144, 0, -1));
    }

    /** Promise 19: "NOT: the LAW with steps added is none"; BAD is named first, NONE last. */
    private static void wearNot() {
        int[][] ends = {{8, 0, 1, 0}, {-8, 0, -1, 0}, {0, 8, 0, 1}, {0, -8, 0, -1}};
        for (int[] end : ends) {
            int law = Due.law(end[0], end[1]);
            int inside = Due.law(end[0] - end[2], end[1] - end[3]);
            Edges.taken("19: up to the end", 0, Works::fresh, t -> t.wear(inside, end[2], end[3]));
            Edges.taken("19: away from the end", 0, Works::fresh, t -> t.wear(law, -end[2], -end[3]));
            Edges.refusedAlways("19: beyond the end", NOT, t -> t.wear(law, end[2], end[3]));
            Edges.refusedAlways("19: BAD before NOT, a", BAD, t -> t.wear(law, 2, end[3]));
            Edges.refusedAlways("19: BAD before NOT, b", BAD, t -> t.wear(law, end[2], -2));
        }
        Edges.refused("19: one part beyond, one not", NOT, Works::fresh, t -> t.wear(Due.law(8, 0), 1, -1));
        Edges.refused("19: b beyond does not become a's next", NOT, Works::fresh, t -> t.wear(Due.law(0, 8), 1, 1));
        Edges.refused("19: NOT before NONE", NOT, () -> Works.byEnds(9), t -> t.wear(Due.law(8, 0), 1, 0));
    }

    /** Promise 19: "NONE". */
    private static void wearNone() {
        int law = Due.law(3, 0);
        Edges.refused("19: worn, then not", NONE, () -> Works.byEnds(4, 3), t -> t.wear(law, 1, 0));
        Edges.refused("19: a row of neither", NONE, () -> Works.byEnds(3, 5, 4), t -> t.wear(law, 1, 0));
        Edges.refused("19: the first is of neither", NONE, () -> Works.byEnds(5, 3, 4), t -> t.wear(law, 1, 0));
        Edges.refused("19: the last is of neither", NONE, () -> Works.byEnds(3, 4, 5), t -> t.wear(law, 1, 0));
    }

    /** Terms: "the least ROW s (0 .. how many ROWS there are)". */
    private static void wearFirstAndLast() {
        int law = Due.law(3, 0);
        Due.be("19: without rows", 0, Works.byEnds().wear(law, 1, 0));
        Due.be("19: one row, worn", 0, Works.byEnds(4).wear(law, 1, 0));
        Due.be("19: one row, not worn", 1, Works.byEnds(3).wear(law, 1, 0));
        Due.be("19: all twelve are worn", 0, Works.byEnds(4, 4, 4, 4, 4, 4, 4, 4, 4, 4, 4, 4).wear(law, 1, 0));
        Due.be("19: the last of twelve is worn", 11, Works.byEnds(3, 3, 3, 3, 3, 3, 3, 3, 3, 3, 3, 4).wear(law, 1, 0));
        Due.be("19: none of twelve is worn", 12, Works.byEnds(3, 3, 3, 3, 3, 3, 3, 3, 3, 3, 3, 3).wear(law, 1, 0));
        Due.be("19: gaps alone", 0, Works.byEnds(GAP, GAP).wear(law, 1, 0));
        Due.be("19: a gap between goes with the worn", 1, Works.byEnds(3, GAP, 4).wear(law, 1, 0));
        Due.be("19: a gap at last", 1, Works.byEnds(3, GAP).wear(law, 1, 0));
    }

    /** Terms: rows MEET the laws within the error that is. */
    private static void wearAtTheError() {
        TwoLaws t = Works.byEnds(3, 5);
        Due.be("19: a row is 4 quarters off", NONE, t.wear(Due.law(3, 0), 1, 0));
        t.error(1);
        Due.be("19: within the error, both are worn", 0, t.wear(Due.law(3, 0), 1, 0));
        Due.be("19: within the error, the second alone is worn", 1, t.wear(Due.law(4, 0), 1, 0));
        Due.be("19: a quarter beyond the error", NONE, t.wear(Due.law(2, 0), 1, 0));
    }

    private static TwoLaws withHeaps(int lane, int... heaps) {
        TwoLaws t = Works.byEnds(3, 4, 3, GAP);
        t.sheet(1, lane, 36);
        for (int i = 0; i < heaps.length; i++) {
            t.item(1, lane, i, heaps[i]);
        }
        return t;
    }

    /** Promise 20: "BAD" of the SHEET (0 .. 3), the LANE (0 .. 2). */
    private static void checkBounds() {
        Edges.between("20: the sheet", 0, 3, BAD, Works::lived, (t, v) -> t.check(v, 0, 0));
        Edges.between("20: the lane", 0, 2, BAD, Works::lived, (t, v) -> t.check(0, v, 0));
        Edges.between("20: the sheet without rows", 0, 3, BAD, Works::fresh, (t, v) -> t.check(v, 0, 0));
    }

    /** Promise 20: "NULL; CAST". */
    private static void checkNullAndCast() {
        for (int k = 0; k < 12; k++) {
            int sheet = k / 3;
            int lane = k % 3;
            if (sheet == 3) {
                Edges.refused("20: NULL", NULL, Works::lived, t -> t.check(sheet, lane, 0));
            } else if (sheet != lane) {
                Edges.refused("20: CAST of " + sheet + " as " + lane, CAST, Works::lived, t -> t.check(sheet, lane, 0));
            } else {
                Due.be("20: as it is", NONE, withHeaps(lane, 0, 1, 0, 1).check(1, lane, 0));
            }
        }
        Edges.refused("20: NULL without rows", NULL, Works::fresh, t -> t.check(0, 0, 0));
        Edges.refused("20: CAST without rows", CAST, () -> emptySheet(1), t -> t.check(0, 0, 0));
    }

    private static TwoLaws emptySheet(int lane) {
        TwoLaws t = Works.fresh();
        t.sheet(0, lane, 0);
        return t;
    }

    /** Promise 20: "INDEX": not an item a ROW from i on. */
    private static void checkIndex() {
        Edges.taken("20: the last items", 0, Works::lived, t -> t.check(2, 2, 31));
        for (int i : new int[] {-1, 32, 35, 36, 37, Edges.LEAST, Edges.MOST, Edges.MOST - 4}) {
            Edges.refused("20: from " + i, INDEX, Works::lived, t -> t.check(2, 2, i));
        }
        Edges.taken("20: twelve of twelve", 0, () -> fullWithSheet(12), t -> t.check(3, 2, 0));
        Edges.refused("20: twelve of eleven", INDEX, () -> fullWithSheet(11), t -> t.check(3, 2, 0));
        Edges.taken("20: without rows an empty row is enough", NONE, () -> emptySheet(1), t -> t.check(0, 1, 0));
        Edges.refused("20: without rows, from below 0", INDEX, () -> emptySheet(1), t -> t.check(0, 1, -1));
    }

    private static TwoLaws fullWithSheet(int n) {
        TwoLaws t = Works.full();
        t.sheet(3, 2, n);
        return t;
    }

    /** Promise 20: "NOT: one is not 0 .. 11". */
    private static void checkNot() {
        for (int lane = 0; lane < 3; lane++) {
            int as = lane;
            for (int place = 0; place < 4; place++) {
                for (int v : new int[] {-1, 12}) {
                    int[] heaps = {0, 1, 2, 3};
                    heaps[place] = v;
                    Edges.refused("20: " + v + " at " + place, NOT, () -> withHeaps(as, heaps), t -> t.check(1, as, 0));
                }
                for (int v : new int[] {0, 11}) {
                    int[] heaps = {1, 2, 3, 4};
                    heaps[place] = v;
                    Edges.refused("20: " + v + " at " + place, NONE, () -> withHeaps(as, heaps), t -> t.check(1, as, 0));
                }
            }
            Due.be("20: an item ahead is not looked at", NONE, withHeaps(as, 12, 0, 1, 2, 3).check(1, as, 1));
            Due.be("20: an item behind is not looked at", NONE, withHeaps(as, 0, 1, 2, 3, 12).check(1, as, 0));
        }
        Edges.refused("20: far above", NOT, () -> withHeaps(2, 0, 1, 2, Edges.MOST), t -> t.check(1, 2, 0));
        Edges.refused("20: far below", NOT, () -> withHeaps(2, 0, 1, 2, Edges.LEAST), t -> t.check(1, 2, 0));
    }

    /** Promise 20: "NONE: all are"; heaps without a row are whole. */
    private static void checkNone() {
        Edges.refused("20: one heap a row", NONE, () -> withHeaps(0, 8, 9, 10, 11), t -> t.check(1, 0, 0));
        Edges.refused("20: two heaps", NONE, () -> withHeaps(0, 0, 1, 0, 1), t -> t.check(1, 0, 0));
        Due.be("20: one heap of one law", NONE, checkedOneHeap(3, 3));
        Due.be("20: one heap of two laws", 0, checkedOneHeap(3, 4));
        Due.be("20: one heap of gaps", NONE, checkedOneHeap(GAP, GAP));
    }

    private static int checkedOneHeap(int... ends) {
        TwoLaws t = Works.byEnds(ends);
        t.sheet(0, 0, 36);
        return t.check(0, 0, 0);
    }

    /** Promise 20: "the first HEAP that is not WHOLE". */
    private static void checkFirst() {
        Due.be("20: heap 0", 0, withHeaps(1, 0, 0, 5, 5).check(1, 1, 0));
        Due.be("20: heap 11", 11, withHeaps(1, 11, 11, 5, 5).check(1, 1, 0));
        TwoLaws t = Works.byEnds(9, 9, 1, 9);
        t.sheet(1, 1, 4);
        for (int r = 0; r < 4; r++) {
            t.item(1, 1, r, 11 - 2 * r);
        }
        Due.be("20: the least of three numbers, not the first row's", 5, t.check(1, 1, 0));
    }

    /** Terms: "of several the first that a call names": BAD; NULL; CAST; INDEX; NOT. */
    private static void checkOrder() {
        Edges.refused("20: BAD lane before NULL", BAD, Works::lived, t -> t.check(3, 3, 0));
        Edges.refused("20: BAD lane before INDEX", BAD, Works::lived, t -> t.check(0, -1, 99));
        Edges.refused("20: NULL before INDEX", NULL, Works::lived, t -> t.check(3, 0, -1));
        Edges.refused("20: CAST before INDEX", CAST, Works::lived, t -> t.check(0, 1, 99));
        Edges.refused("20: CAST before NOT", CAST, () -> withHeaps(0, 12, 12, 12, 12), t -> t.check(1, 1, 0));
        Edges.refused("20: INDEX before NOT", INDEX, () -> fullWithBadHeap(), t -> t.check(3, 2, 30));
        Edges.refused("20: NOT before a heap that is not whole", NOT, () -> withHeaps(0, 0, 0, 0, 12), t -> t.check(1, 0, 0));
    }

    private static TwoLaws fullWithBadHeap() {
        TwoLaws t = Works.full();
        t.item(3, 2, 31, 12);
        return t;
    }
}
