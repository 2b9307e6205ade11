/** Promises 21 to 29: pushes to try, boxes, the watch. */
public final class TrialsTest {
    private static final int LEAST = Integer.MIN_VALUE;
    private static final int MOST = Integer.MAX_VALUE;

    public static void main(String[] args) {
        leftAtWorst();
        leftAtWorstOfAll();
        leftAtWorstRefused();
        bestPush();
        bestPushRefused();
        toldApart();
        toldApartRefused();
        knowing();
        boxes();
        stepping();
        heldSteps();
        braking();
        brakingRefused();
        watching();
        watchingRefused();
        Due.end();
    }

    /** A works whose first row lets the laws of one state's part only, whose second lets one of push's part only. */
    private static TwoLaws works(int a, int b) {
        TwoLaws t = new TwoLaws();
        t.error(0);
        t.row(4, 0, a);
        t.row(0, 4, b);
        t.row(4, 0, a == 8 ? 7 : a + 1);
        return t;
    }

    private static void leftAtWorst() {
        TwoLaws t = works(3, -2);
        Due.be("21: a push of 0 tells nothing", 17, t.tries(1, 4, 0));
        Due.be("21: no end is met", 0, t.tries(1, 1, 0));
        Due.be("21: 12 and b: -8, -4, 0, 4, 8, each another end", 1, t.tries(1, 4, 1));
        Due.be("21: 12 and 4 b: each another end", 1, t.tries(1, 4, 4));
        Due.be("21: one law", 1, t.tries(3, 4, 4));
        t.error(1);
        Due.be("21: a within 1, b any", 17 * 3, t.tries(1, 0, 0));
        Due.be("21: 4 b within 4", 3 * 3, t.tries(1, 0, 4));
        Due.be("21: 9 b within 4", 3, t.tries(1, 0, 9));
        Due.be("21: both signs are alike here", 3, t.tries(1, 0, -9));
    }

    private static void leftAtWorstOfAll() {
        TwoLaws t = new TwoLaws();
        Due.be("21: all laws", 289, t.tries(0, 0, 0));
        Due.be("21: far, but met", 17, t.tries(0, 99, 0));
        for (int e = 0; e <= 20; e += 5) {
            t.error(e);
            for (int x = -99; x <= 99; x += 11) {
                for (int u = -9; u <= 9; u += 3) {
                    Due.be("21: all laws, x " + x + ", u " + u + ", error " + e, byTryingEnds(x, u, e), t.tries(0, x, u));
                }
            }
        }
        TwoLaws one = works(8, 8);
        Due.be("21: ends beyond 99 count: 216", 1, one.tries(3, 99, 9));
        Due.be("21: and -216", 1, one.tries(3, -99, -9));
        one.error(20);
        Due.be("21: and 236 or more", byTryingEnds(99, 9, 20), one.tries(0, 99, 9));
    }

    private static int byTryingEnds(int x, int u, int e) {
        int most = 0;
        for (int y = -300; y <= 300; y++) {
            int n = 0;
            for (int law = 0; law < 289; law++) {
                int sum = (law / 17 - 8) * x + (law % 17 - 8) * u;
                n += Math.abs(4 * y - sum) <= 4 * e ? 1 : 0;
            }
            most = Math.max(most, n);
        }
        return most;
    }

    private static void leftAtWorstRefused() {
        TwoLaws t = works(3, -2);
        Due.be("21: not whole", TwoLaws.NONE, t.tries(5, 1, 1));
        Due.be("21: bad before none", TwoLaws.BAD, t.tries(5, 1, 10));
        int[][] bad = {{8, 0, 0}, {-1, 0, 0}, {0, 100, 0}, {0, -100, 0}, {0, 0, 10}, {0, 0, -10},
            {LEAST, 0, 0}, {0, MOST, 0}, {0, 0, LEAST}};
        for (int[] b : bad) {
            Due.be("21: bad", TwoLaws.BAD, t.tries(b[0], b[1], b[2]));
        }
    }

    private static void bestPush() {
        TwoLaws t = works(3, -2);
        Due.be("22: a push of 0 leaves none", 0, t.best(1, 1));
        Due.be("22: one law: 1 and -1 leave none, the one above 0 is first", 1, t.best(3, 4));
        Due.be("22: 1 leaves one, 0 leaves all", 1, t.best(1, 4));
        t.error(1);
        Due.be("22: two of 8 b may be within 4 of one end, not of 9 b", 9, t.best(1, 0));
        TwoLaws s = new TwoLaws();
        s.error(0);
        s.row(4, 4, 0);
        Due.be("22: below 0 is best, if it is better", bestByTrying(s, 1, 4), s.best(1, 4));
        for (int x = -99; x <= 99; x += 9) {
            for (int e = 0; e <= 4; e += 2) {
                s.error(e);
                Due.be("22: as tries tells at " + x, bestByTrying(s, 1, x), s.best(1, x));
            }
        }
    }

    private static int bestByTrying(TwoLaws t, int heap, int x) {
        int best = 0;
        for (int size = 1; size <= 9; size++) {
            best = t.tries(heap, x, size) < t.tries(heap, x, best) ? size : best;
            best = t.tries(heap, x, -size) < t.tries(heap, x, best) ? -size : best;
        }
        return best;
    }

    private static void bestPushRefused() {
        TwoLaws t = works(3, -2);
        Due.be("22: not whole", -1000004, t.best(5, 1));
        Due.be("22: bad before none", -1000001, t.best(5, 100));
        int[][] bad = {{8, 0}, {-1, 0}, {0, 100}, {0, -100}, {LEAST, 0}, {0, MOST}};
        for (int[] b : bad) {
            Due.be("22: bad", -1000001, t.best(b[0], b[1]));
        }
    }

    private static void toldApart() {
        TwoLaws t = new TwoLaws();
        t.error(0);
        Due.be("23: by the state alone", 0, t.apart(Due.law(1, 0), Due.law(2, 0), 4));
        Due.be("23: by the push alone, above 0 first", 1, t.apart(Due.law(0, 4), Due.law(0, 0), 0));
        Due.be("23: a law from itself, where it meets no end", 0, t.apart(Due.law(1, 0), Due.law(1, 0), 1));
        Due.be("23: a law from itself, never", -1000004, t.apart(Due.law(4, 4), Due.law(4, 4), 1));
        t.error(1);
        Due.be("23: 8 quarters apart may meet in the middle", 3, t.apart(Due.law(0, 4), Due.law(0, 0), 0));
        Due.be("23: the middle is no whole end", 0, t.apart(Due.law(1, 0), Due.law(-6, 0), 1));
        Due.be("23: below 0, where 1 and 2 are not enough", -2, t.apart(Due.law(2, -2), Due.law(-2, 2), 1));
        t.error(9);
        Due.be("23: no push is enough", -1000004, t.apart(Due.law(0, 4), Due.law(0, 0), 0));
        t.error(20);
        Due.be("23: ends may be any whole number", -1000004, t.apart(Due.law(8, 8), Due.law(8, 7), 99));
        Due.be("23: far apart", 0, t.apart(Due.law(8, 8), Due.law(-8, 7), 99));
        t.error(4);
        Due.be("23: the last push below 0", -9, t.apart(Due.law(0, 0), Due.law(-6, 3), 1));
        Due.be("23: the last push above 0", 9, t.apart(Due.law(0, 4), Due.law(0, 0), 0));
    }

    private static void toldApartRefused() {
        TwoLaws t = new TwoLaws();
        int[][] bad = {{289, 0, 0}, {-1, 0, 0}, {0, 289, 0}, {0, -1, 0}, {0, 0, 100}, {0, 0, -100},
            {LEAST, 0, 0}, {0, MOST, 0}, {0, 0, LEAST}};
        for (int[] b : bad) {
            Due.be("23: bad", -1000001, t.apart(b[0], b[1], b[2]));
        }
    }

    private static void knowing() {
        TwoLaws t = new TwoLaws();
        Due.be("24: bad", TwoLaws.BAD, t.know(289));
        Due.be("24: bad", TwoLaws.BAD, t.know(-1));
        Due.be("24: the first", 0, t.know(288));
        Due.be("24: known", TwoLaws.NOT, t.know(288));
        Due.be("24: the second", 1, t.know(0));
        Due.be("24: the third", 2, t.know(144));
        Due.be("24: watched", 4, t.watch(0, 4, 0));
        Due.be("24: the fourth", 3, t.know(145));
        Due.be("24: all may be then", 15, t.watch(0, 0, 0));
        Due.be("24: watched", 12, t.watch(0, 4, 0));
        Due.be("24: not before full", TwoLaws.NOT, t.know(0));
        Due.be("24: full", TwoLaws.FULL, t.know(1));
        Due.be("24: bad before full", TwoLaws.BAD, t.know(LEAST));
        Due.be("24: what is refused changes nothing", 12, t.watch(0, 0, 0));
        Due.be("24: how many", 4, t.count(2));
        Due.be("24: watched rows stay counted", 4, t.count(3));
    }

    private static void boxes() {
        TwoLaws t = new TwoLaws();
        Due.be("25: the widest", 1, t.box(-9999, 9999));
        Due.be("27: its least", -9999, t.holds(0));
        Due.be("27: its greatest", 9999, t.holds(1));
        Due.be("25: one state", 1, t.box(7, 7));
        int[][] bad = {{7, 6}, {-10000, 0}, {0, 10000}, {10000, 10000}, {-10000, -10000}, {LEAST, MOST}};
        for (int[] b : bad) {
            Due.be("25: bad", TwoLaws.BAD, t.box(b[0], b[1]));
        }
        Due.be("25: what is refused changes nothing", 7, t.holds(0));
        Due.be("27: bad", -1000001, t.holds(2));
        Due.be("27: bad", -1000001, t.holds(-1));
    }

    private static void stepTo(String name, TwoLaws t, int u, int low, int high) {
        Due.be("26: " + name, 1, t.step(u));
        Due.be("26: " + name + ", low", low, t.holds(0));
        Due.be("26: " + name + ", high", high, t.holds(1));
    }

    private static void stepping() {
        TwoLaws t = new TwoLaws();
        Due.be("26: no known law", TwoLaws.NONE, t.step(1));
        Due.be("26: bad before none", TwoLaws.BAD, t.step(100));
        t.know(Due.law(3, 2));
        t.error(0);
        t.box(1, 2);
        stepTo("3 and 6 quarters, rounded outward", t, 0, 0, 2);
        t.box(-2, -1);
        stepTo("-6 and -3 quarters", t, 0, -2, 0);
        t.box(-4, 8);
        stepTo("whole ones are not rounded", t, 2, -2, 7);
        t.error(3);
        t.box(-4, 8);
        stepTo("with the error", t, 2, -5, 10);
        t.box(0, 0);
        stepTo("the farthest push", t, -99, -53, -46);
        Due.be("26: bad", TwoLaws.BAD, t.step(-100));
        t.error(1);
        t.know(Due.law(-4, 0));
        t.box(-4, 8);
        stepTo("of both laws, the ends change places", t, 2, -9, 8);
        Due.be("26: watched", 2 + 16, afterTwoRings(t));
        t.box(-4, 8);
        stepTo("by all known laws, not only those that may be", t, 2, -9, 8);
    }

    private static int afterTwoRings(TwoLaws t) {
        t.watch(4, 0, 3);
        return t.watch(4, 0, -4);
    }

    private static void heldSteps() {
        TwoLaws t = new TwoLaws();
        t.know(Due.law(8, 8));
        t.error(20);
        t.box(9999, 9999);
        stepTo("held to 9999, both ends", t, 99, 9999, 9999);
        t.box(-9999, -9999);
        stepTo("held to -9999, both ends", t, -99, -9999, -9999);
        t.box(-9999, 9999);
        stepTo("held on both sides", t, 0, -9999, 9999);
    }

    private static void braking() {
        TwoLaws t = new TwoLaws();
        t.error(0);
        t.know(Due.law(4, 4));
        t.box(10, 12);
        Due.be("28: 11 to 13 behind step 1", 1, t.brake(1, 40, 0, 12));
        Due.be("28: behind step 2", 2, t.brake(1, 40, 0, 13));
        Due.be("28: behind step 40", 40, t.brake(1, 40, 0, 51));
        Due.be("28: in time", TwoLaws.NONE, t.brake(1, 40, 0, 52));
        Due.be("28: only n steps", TwoLaws.NONE, t.brake(1, 2, 0, 14));
        Due.be("28: within from step 1 on, the box itself need not be", TwoLaws.NONE, t.brake(-3, 1, 7, 9));
        Due.be("28: below", 3, t.brake(-3, 5, 2, 99));
        Due.be("28: the box stays, low", 10, t.holds(0));
        Due.be("28: the box stays, high", 12, t.holds(1));
        t.error(1);
        Due.be("28: by the error that is", 2, t.brake(0, 40, 9, 13));
        t.box(-9999, 9999);
        Due.be("28: held to the widest", TwoLaws.NONE, t.brake(99, 40, -9999, 9999));
        Due.be("28: one less", 1, t.brake(-99, 40, -9998, 9999));
    }

    private static void brakingRefused() {
        TwoLaws t = new TwoLaws();
        Due.be("28: no known law", TwoLaws.NOT, t.brake(0, 1, 0, 0));
        int[][] bad = {{100, 1, 0, 0}, {-100, 1, 0, 0}, {0, 0, 0, 0}, {0, 41, 0, 0}, {0, 1, 1, 0}, {0, 1, -10000, 0},
            {0, 1, 0, 10000}, {LEAST, 1, 0, 0}, {0, MOST, 0, 0}, {0, 1, LEAST, 0}, {0, 1, 0, MOST}};
        for (int[] b : bad) {
            Due.be("28: bad before not", TwoLaws.BAD, t.brake(b[0], b[1], b[2], b[3]));
        }
        t.know(0);
        Due.be("28: bad", TwoLaws.BAD, t.brake(0, -1, 0, 0));
    }

    private static void watching() {
        TwoLaws t = new TwoLaws();
        t.error(0);
        t.know(Due.law(4, 0));
        t.know(Due.law(4, 4));
        t.know(Due.law(8, 4));
        Due.be("29: all may be", 7, t.watch(0, 0, 0));
        Due.be("29: two are left", 3, t.watch(5, 0, 5));
        Due.be("29: one is left", 2, t.watch(5, 1, 6));
        Due.be("29: it stays", 2, t.watch(0, 0, 0));
        Due.be("29: it rings, another may be", 16 + 1, t.watch(5, 1, 5));
        Due.be("29: it rings, two may be", 16 + 6, t.watch(0, 1, 1));
        Due.be("29: one of them", 4, t.watch(1, 1, 3));
        Due.be("29: it rings, by none: all may be", 16 + 7, t.watch(1, 0, 50));
        Due.be("29: watched", 8, t.count(3));
        Due.be("29: rang", 3, t.count(4));
        Due.be("29: by the error that is", 0, t.error(1));
        Due.be("29: all within 1", 7, t.watch(2, 0, 3));
        Due.be("29: no rows come", 0, t.count(0));
    }

    private static void watchingRefused() {
        TwoLaws t = new TwoLaws();
        Due.be("29: no known law", TwoLaws.NOT, t.watch(0, 0, 0));
        int[][] bad = {{100, 0, 0}, {-100, 0, 0}, {0, 100, 0}, {0, -100, 0}, {0, 0, 100}, {0, 0, -100},
            {LEAST, 0, 0}, {0, MOST, 0}, {0, 0, LEAST}};
        for (int[] b : bad) {
            Due.be("29: bad before not", TwoLaws.BAD, t.watch(b[0], b[1], b[2]));
        }
        Due.be("29: none is watched", 0, t.count(3));
        t.know(144);
        Due.be("29: as far as they go", 17, t.watch(99, -99, 99));
        Due.be("29: as far as they go", 17, t.watch(-99, 99, -99));
    }
}
