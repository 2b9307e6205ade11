/** Promises 13 to 20: heaps of rows and the laws that they let. */
public final class HeapsTest {
    private static final int LEAST = Integer.MIN_VALUE;
    private static final int MOST = Integer.MAX_VALUE;

    public static void main(String[] args) {
        fewest();
        lettingGo();
        lettingGoOfLikeMany();
        together();
        togetherRefused();
        spans();
        lines();
        linesRefused();
        hours();
        wear();
        checks();
        checksRefused();
        Due.end();
    }

    private static void fewest() {
        Due.be("13: without rows", 0, Works.byEnds().fewest());
        Due.be("13: a gap", 1, Works.byEnds(Works.GAP).fewest());
        Due.be("13: gaps", 1, Works.byEnds(Works.GAP, Works.GAP, Works.GAP).fewest());
        Due.be("13: one row", 1, Works.byEnds(8).fewest());
        Due.be("13: three laws", 3, Works.byEnds(1, 2, 3, 2, 1, Works.GAP).fewest());
        Due.be("13: twelve laws", 12, Works.byEnds(-8, -7, -6, -5, -4, -3, -2, -1, 0, 1, 2, 3).fewest());
        Due.be("13: a row that meets no law", TwoLaws.NONE, Works.byEnds(1, 9).fewest());
        TwoLaws first = Works.byEnds(-8);
        first.row(0, 4, -8);
        Due.be("13: law 0 alone", 1, first.fewest());
        TwoLaws last = Works.byEnds(8);
        last.row(0, 4, 8);
        Due.be("13: law 288 alone", 1, last.fewest());
        TwoLaws t = Works.byEnds(1, 2);
        t.error(1);
        Due.be("13: by the error that is", 1, t.fewest());
        t.error(0);
        Due.be("13: and again", 2, t.fewest());
        t.clear();
        Due.be("13: behind clear", 0, t.fewest());
        t.row(4, 0, 5);
        Due.be("13: other rows", 1, t.fewest());
        t.row(4, 0, 6);
        Due.be("13: a row more", 2, t.fewest());
        TwoLaws s = Works.byEnds();
        s.error(1);
        s.row(4, 0, 0);
        s.row(4, 0, 2);
        s.row(4, 0, 4);
        Due.be("13: rows that are met in twos, not in threes", 2, s.fewest());
    }

    private static void lettingGo() {
        TwoLaws t = Works.byEnds(1, 2, 2, 3, 9, Works.GAP);
        int[] many = {6, 3, 2, 1, 1, 1, 1};
        int[] bits = {63, 1 | 8 | 16, 1 | 16, 16, 16, 16, 16};
        for (int k = 0; k <= 6; k++) {
            Due.be("14: how many for " + k, many[k], t.letGo(k, 0));
            Due.be("14: which for " + k, bits[k], t.letGo(k, 1));
        }
        int[][] bad = {{-1, 0}, {7, 0}, {0, -1}, {0, 2}, {LEAST, 0}, {MOST, 1}, {3, MOST}};
        for (int[] b : bad) {
            Due.be("14: bad", TwoLaws.BAD, t.letGo(b[0], b[1]));
        }
        TwoLaws all = Works.byEnds(-8, -7, -6, -5, -4, -3, -2, -1, 0, 1, 2, 3);
        Due.be("14: of twelve, six laws", 6, all.letGo(6, 0));
        Due.be("14: the least bits", 63, all.letGo(6, 1));
        Due.be("14: without rows", 0, Works.byEnds().letGo(0, 1));
    }

    private static void lettingGoOfLikeMany() {
        Due.be("14: of like many the least bits", 1, Works.byEnds(5, 6).letGo(1, 1));
        Due.be("14: 1 and 2 are less than 4 and 8", 3, Works.byEnds(5, 5, 6, 6).letGo(1, 1));
        Due.be("14: 1 and 4 are less than 2 and 8", 5, Works.byEnds(5, 6, 5, 6).letGo(1, 1));
        Due.be("14: 2 and 4 are less than 1 and 8", 6, Works.byEnds(5, 6, 6, 5).letGo(1, 1));
    }

    /** Of each two rows, 0 and 1, 0 and 2 and so on, how they are together, whichever is told first. */
    static void pairs(String name, TwoLaws t, int... want) {
        int k = 0;
        for (int a = 0; a < t.count(0); a++) {
            for (int b = a + 1; b < t.count(0); b++) {
                Due.be("15: " + name + " " + a + ", " + b, want[k], t.together(a, b));
                Due.be("15: " + name + " " + b + ", " + a, want[k], t.together(b, a));
                k++;
            }
        }
    }

    private static void together() {
        pairs("one law", Works.byEnds(3, 3), 2);
        pairs("one law, a gap", Works.byEnds(3, Works.GAP), 2);
        pairs("two laws", Works.byEnds(3, 5), 0);
        pairs("two laws, a gap", Works.byEnds(3, 5, Works.GAP), 0, 1, 1);
        pairs("two laws, three rows", Works.byEnds(3, 5, 5), 0, 0, 2);
        pairs("three laws", Works.byEnds(3, 4, 5), 0, 0, 0);
        TwoLaws t = Works.byEnds(0, 2, 4);
        t.error(1);
        pairs("the middle goes to either", t, 1, 0, 1);
        t = Works.byEnds(0, 2, 4, 6);
        t.error(1);
        pairs("only twos", t, 2, 0, 0, 0, 0, 2);
        // 1 and 3 are whole, but each must go with its own end for two heaps to be enough.
        t = Works.byEnds(0, 1, 2, 3, 4);
        t.error(1);
        pairs("a chain", t, 2, 1, 0, 0, 1, 0, 0, 1, 1, 2);
    }

    private static void togetherRefused() {
        TwoLaws t = Works.byEnds(3, 9);
        Due.be("15: no parting", TwoLaws.NONE, t.together(0, 1));
        int[][] bad = {{0, 0}, {0, 2}, {2, 0}, {-1, 0}, {0, -1}, {LEAST, MOST}, {MOST, 1}};
        for (int[] b : bad) {
            Due.be("15: bad", TwoLaws.BAD, t.together(b[0], b[1]));
        }
    }

    private static void spans() {
        TwoLaws t = Works.byEnds(3, 5);
        t.row(0, 4, -2);
        Due.be("16: all laws, least", -80, t.span(0, 5, 5, 0));
        Due.be("16: all laws, greatest", 80, t.span(0, 5, 5, 1));
        Due.be("16: the farthest, least", -1584, t.span(0, 99, -99, 0));
        Due.be("16: the farthest, greatest", 1584, t.span(0, -99, 99, 1));
        Due.be("16: a is 3, least", 30 - 16, t.span(1, 10, 2, 0));
        Due.be("16: a is 3, greatest", 30 + 16, t.span(1, 10, 2, 1));
        Due.be("16: one law, least", 3 * 10 + 2 * 7, t.span(5, 10, -7, 0));
        Due.be("16: one law, greatest", 3 * 10 + 2 * 7, t.span(5, 10, -7, 1));
        Due.be("16: below 0 as it is", -30 + 4, t.span(5, -10, -2, 1));
        Due.be("16: not whole", -1000004, t.span(3, 1, 1, 0));
        Due.be("16: bad before none", -1000001, t.span(3, 1, 1, 2));
        int[][] bad = {{8, 1, 1, 0}, {-1, 1, 1, 0}, {1, 100, 1, 0}, {1, -100, 1, 0}, {1, 1, 100, 0}, {1, 1, -100, 0},
            {1, 1, 1, -1}, {LEAST, 0, 0, 0}, {0, MOST, 0, 0}, {0, 0, LEAST, 0}, {0, 0, 0, MOST}};
        for (int[] b : bad) {
            Due.be("16: bad", -1000001, t.span(b[0], b[1], b[2], b[3]));
        }
    }

    private static void lineIs(String name, TwoLaws t, int one, int other, int p, int q, int r) {
        Due.be("17: " + name + ", p", p, t.line(one, other, 0));
        Due.be("17: " + name + ", q", q, t.line(one, other, 1));
        Due.be("17: " + name + ", r", r, t.line(one, other, 2));
    }

    private static void lines() {
        TwoLaws t = new TwoLaws();
        t.row(0, 0, 1);
        t.gap(1, 0);
        t.row(0, 1, 1);
        t.row(50, 50, 0);
        t.row(0, 0, 2);
        lineIs("empty heaps", t, 0, 0, -3, -3, -99);
        lineIs("the other empty", t, 1, 0, -3, -3, -99);
        lineIs("the first empty", t, 0, 1, -3, -3, 1);
        lineIs("r is below the first by none", t, 1, 2, -3, -3, -2);
        lineIs("a gap has a state and a push", t, 2, 1, 1, -3, 1);
        lineIs("q", t, 4, 1, -3, 1, 1);
        lineIs("a far row", t, 8, 7, -2, 3, 4);
        lineIs("the same place", t, 1, 16, -1000004, -1000004, -1000004);
        lineIs("no r is below -99", t, 9, 0, -3, 2, -99);
        t.clear();
        t.row(-60, 0, 0);
        t.row(-50, 0, 0);
        lineIs("no r is above 99", t, 1, 2, -1, -3, 51);
        t.clear();
        t.row(-33, 0, 0);
        t.row(-32, 0, 0);
        lineIs("r is 97, and all of the first may be", t, 1, 2, -3, -3, 97);
        t.row(-99, 99, 0);
        t.row(-98, 98, 0);
        lineIs("r is 99", t, 4, 8, -3, -2, 99);
        t.clear();
        t.row(0, 0, 0);
        t.row(2, -3, 0);
        t.row(-1, 1, 0);
        t.row(1, -2, 0);
        lineIs("3 and 2 alone", t, 3, 12, 3, 2, 0);
    }

    private static void linesRefused() {
        TwoLaws t = new TwoLaws();
        t.row(0, 0, 1);
        t.row(1, 0, 1);
        int[][] bad = {{1, 1, 0}, {3, 2, 0}, {4, 0, 0}, {0, 4, 0}, {-1, 0, 0}, {0, -1, 0}, {1, 2, 3}, {1, 2, -1},
            {LEAST, 0, 0}, {0, LEAST, 0}, {1, 2, MOST}};
        for (int[] b : bad) {
            Due.be("17: bad", -1000001, t.line(b[0], b[1], b[2]));
        }
    }

    private static void hours() {
        TwoLaws t = Works.byEnds(1, 1, 1, 1, 1, 1, 1, 1);
        Due.be("18: an empty heap", 1, t.hours(0, 255));
        Due.be("18: empty heaps", 1, t.hours(0, 0));
        Due.be("18: by 2", 2, t.hours(0b01010101, 0b10101010));
        Due.be("18: by 3", 3, t.hours(0b01001001, 0b00010110));
        Due.be("18: by 4", 4, t.hours(1, 12));
        Due.be("18: by 5", 5, t.hours(1, 0b00010100 | 8 | 64));
        Due.be("18: by 6", 6, t.hours(1, 0b00111110));
        Due.be("18: by none, 0 and 1 to 6", TwoLaws.NONE, t.hours(1, 0b01111110));
        Due.be("18: a row in both", TwoLaws.NONE, t.hours(3, 2));
        int[][] bad = {{256, 0}, {0, 256}, {-1, 0}, {0, -1}, {LEAST, 1}, {MOST, 1}};
        for (int[] b : bad) {
            Due.be("18: bad", TwoLaws.BAD, t.hours(b[0], b[1]));
        }
    }

    private static void wear() {
        TwoLaws t = Works.byEnds(3, 3, Works.GAP, 4, 4);
        int law = Due.law(3, 0);
        Due.be("19: the gap is by the worn law already", 2, t.wear(law, 1, 0));
        Due.be("19: both steps", 2, t.wear(law, 1, -1));
        Due.be("19: not this way", TwoLaws.NONE, t.wear(law, -1, 0));
        Due.be("19: the state's part stays", TwoLaws.NONE, t.wear(law, 0, 1));
        Due.be("19: worn from the first row on", 0, Works.byEnds(4, 4).wear(law, 1, 0));
        Due.be("19: not worn at all", 2, Works.byEnds(3, 3).wear(law, 1, 0));
        Due.be("19: the least of several", 0, Works.byEnds(3, 3).wear(law, 0, 1));
        Due.be("19: back again", TwoLaws.NONE, Works.byEnds(3, 4, 3).wear(law, 1, 0));
        Due.be("19: without rows", 0, Works.byEnds().wear(law, 1, 1));
        Due.be("19: twelve rows", 12, Works.byEnds(3, 3, 3, 3, 3, 3, 3, 3, 3, 3, 3, 3).wear(law, 1, 0));
        TwoLaws pushed = Works.byEnds();
        pushed.row(0, 4, 5);
        pushed.row(0, 4, 5);
        pushed.row(4, 4, 9);
        Due.be("19: by the push's part", 2, pushed.wear(Due.law(2, 5), 1, 1));
        Due.be("19: not worn at all, by both parts", 3, pushed.wear(Due.law(4, 5), -1, -1));
        int[][] not = {{Due.law(8, 0), 1, 0}, {Due.law(-8, 0), -1, 0}, {Due.law(0, 8), 0, 1}, {Due.law(0, -8), 0, -1},
            {Due.law(0, 8), -1, 1}, {Due.law(8, 8), 1, -1}};
        for (int[] n : not) {
            Due.be("19: no such law", TwoLaws.NOT, t.wear(n[0], n[1], n[2]));
        }
        int[][] bad = {{law, 0, 0}, {law, 2, 0}, {law, 0, -2}, {law, -2, 1}, {289, 1, 0}, {-1, 1, 0}, {288, 2, 0},
            {LEAST, 1, 0}, {law, MOST, 0}, {law, 0, LEAST}};
        for (int[] b : bad) {
            Due.be("19: bad", TwoLaws.BAD, t.wear(b[0], b[1], b[2]));
        }
    }

    private static int checked(TwoLaws t, int lane, int... heaps) {
        t.sheet(0, lane, heaps.length + 1);
        for (int i = 0; i < heaps.length; i++) {
            t.item(0, lane, i + 1, heaps[i]);
        }
        return t.check(0, lane, 1);
    }

    private static void checks() {
        TwoLaws t = Works.byEnds(3, 4, 3, Works.GAP, 9);
        for (int lane = 0; lane < 3; lane++) {
            Due.be("20: a row that meets no law", 5, checked(t, lane, 0, 1, 0, 1, 5));
            Due.be("20: the first heap by number", 2, checked(t, lane, 7, 7, 2, 2, 2));
            Due.be("20: not the first by rows", 0, checked(t, lane, 11, 11, 2, 2, 0));
            Due.be("20: the last heap", 11, checked(t, lane, 1, 2, 3, 4, 11));
            Due.be("20: not 12", TwoLaws.NOT, checked(t, lane, 0, 0, 0, 0, 12));
            Due.be("20: the first is not", TwoLaws.NOT, checked(t, lane, 12, 0, 0, 0, 0));
            Due.be("20: not -1", TwoLaws.NOT, checked(t, lane, 0, 0, 0, 0, -1));
            Due.be("20: items behind do not count", 5, checked(t, lane, 0, 1, 0, 1, 5, 99));
        }
        TwoLaws s = Works.byEnds(3, 4, 3, Works.GAP);
        Due.be("20: all are", TwoLaws.NONE, checked(s, 1, 0, 1, 0, 1));
        Due.be("20: more heaps than fewest", TwoLaws.NONE, checked(s, 1, 0, 1, 2, 3));
        Due.be("20: one is not", 0, checked(s, 1, 0, 0, 1, 1));
        s.clear();
        Due.be("20: without rows", TwoLaws.NONE, checked(s, 2));
    }

    private static void checksRefused() {
        TwoLaws t = Works.byEnds(3, 4, 3);
        t.sheet(2, 1, 5);
        Due.be("20: as far as it goes", 0, t.check(2, 1, 2));
        Due.be("20: beyond", TwoLaws.INDEX, t.check(2, 1, 3));
        Due.be("20: below", TwoLaws.INDEX, t.check(2, 1, -1));
        Due.be("20: far", TwoLaws.INDEX, t.check(2, 1, MOST));
        Due.be("20: far below", TwoLaws.INDEX, t.check(2, 1, LEAST));
        t.item(2, 1, 4, 50);
        Due.be("20: index before not", TwoLaws.INDEX, t.check(2, 1, 4));
        Due.be("20: cast before index", TwoLaws.CAST, t.check(2, 0, 4));
        Due.be("20: null before index", TwoLaws.NULL, t.check(1, 0, 4));
        Due.be("20: bad before null", TwoLaws.BAD, t.check(1, 3, 4));
        Due.be("20: bad lane", TwoLaws.BAD, t.check(2, -1, 0));
        Due.be("20: bad sheet", TwoLaws.BAD, t.check(4, 1, 0));
        Due.be("20: bad sheet", TwoLaws.BAD, t.check(-1, 1, 0));
        t.clear();
        Due.be("20: no row, at the end", TwoLaws.NONE, t.check(2, 1, 5));
        Due.be("20: no row, beyond", TwoLaws.INDEX, t.check(2, 1, 6));
    }
}
