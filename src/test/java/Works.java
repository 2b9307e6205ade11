/** Objects in the states in which edges are looked at, a new one at each call. */
final class Works {
    /** In place of an end of byEnds: a gap. */
    static final int GAP = 99;

    private Works() {
    }

    static TwoLaws fresh() {
        return new TwoLaws();
    }

    /** Five rows, for which two laws are enough; the rest as the methods below say. */
    static TwoLaws lived() {
        TwoLaws t = livedWithoutTape();
        Due.typed(t, "x7u-8y9");
        return t;
    }

    static TwoLaws livedWithoutTape() {
        TwoLaws t = new TwoLaws();
        t.error(2);
        t.row(4, 0, 3);
        t.row(0, 4, -2);
        t.gap(7, -7);
        t.row(4, 0, -5);
        t.row(99, 99, 99);
        watched(t);
        t.box(-30, 40);
        sheetsOfEachLane(t);
        return t;
    }

    /** Three known laws; two rows were watched, the second rang, law 1 alone may be. */
    private static void watched(TwoLaws t) {
        t.know(Due.law(4, 4));
        t.know(Due.law(4, -4));
        t.know(Due.law(-8, 0));
        t.watch(0, 4, 4);
        t.watch(0, 4, -4);
    }

    /** Sheet 0 nine bytes, 1 six shorts, 2 as many ints as there can be; 3 is nothing. */
    private static void sheetsOfEachLane(TwoLaws t) {
        t.sheet(0, 0, 9);
        t.sheet(1, 1, 6);
        t.sheet(2, 2, 36);
        for (int i = 0; i < 6; i++) {
            t.item(0, 0, i, i + 1);
            t.item(1, 1, i, -i);
            t.item(2, 2, 6 * i, 10 + i);
        }
    }

    /** Twelve rows (the last a gap), four known laws, 120 bytes on the tape, four sheets of 36 items. */
    static TwoLaws full() {
        TwoLaws t = new TwoLaws();
        for (int k = 0; k < 11; k++) {
            t.row(4, 0, k - 6);
        }
        t.gap(99, -99);
        for (int law : new int[] {0, 288, 144, Due.law(4, 4)}) {
            t.know(law);
        }
        Due.typed(t, "x1u2y3;".repeat(11) + "x1u2y3" + " ".repeat(37));
        for (int s = 0; s < 4; s++) {
            t.sheet(s, laneOfFull(s), 36);
            t.item(s, laneOfFull(s), 0, 5);
            t.item(s, laneOfFull(s), 35, -7);
        }
        return t;
    }

    /** Sheets 0 to 3 of the full object are bytes, shorts, ints, ints. */
    static int laneOfFull(int sheet) {
        return Math.min(sheet, 2);
    }

    /** With an error of 0 rows of state 4 and push 0: a row's end is the one part a of the laws that it meets. */
    static TwoLaws byEnds(int... ends) {
        TwoLaws t = new TwoLaws();
        t.error(0);
        for (int y : ends) {
            if (y == GAP) {
                t.gap(4, 0);
            } else {
                t.row(4, 0, y);
            }
        }
        return t;
    }
}
