/** Edges of promises 21 to 29, a method for each sentence of the document that names one. */
public final class TrialsEdgesTest {
    private static final int BAD = TwoLaws.BAD, NOT = TwoLaws.NOT, FULL = TwoLaws.FULL, NONE = TwoLaws.NONE;
    private static final int FAR = 9999;

    public static void main(String[] args) {
        triesBounds();
        triesNone();
        triesEmptyAndAll();
        triesAnyEnd();
        bestBounds();
        bestNone();
        bestOfLikeOnes();
        bestAtTheEnds();
        apartBounds();
        apartNone();
        apartAtTheError();
        apartOfLikeOnes();
        apartFromItself();
        knowBounds();
        knowNot();
        knowFull();
        knowAllMayBe();
        boxBounds();
        boxFromAboveTo();
        stepBounds();
        stepNone();
        stepToWholeOnes();
        stepHeld();
        holdsBounds();
        brakeBounds();
        brakeLowAboveHigh();
        brakeNot();
        brakeNone();
        brakeFirstAndLast();
        brakeLeavesTheBox();
        watchBounds();
        watchNot();
        watchAtTheError();
        watchRings();
        watchOfFourLaws();
        watchUpToTheLastCall();
        Due.end();
    }

    /** With an error of e one row. */
    private static TwoLaws oneRow(int e, int x, int u, int y) {
        TwoLaws t = Works.fresh();
        t.error(e);
        t.row(x, u, y);
        return t;
    }

    private static TwoLaws oneLaw(int a, int b) {
        TwoLaws t = oneRow(0, 4, 0, a);
        t.row(0, 4, b);
        return t;
    }

    private static TwoLaws withError(int e) {
        TwoLaws t = Works.fresh();
        t.error(e);
        return t;
    }

    private static TwoLaws knowing(int e, int... laws) {
        TwoLaws t = withError(e);
        for (int law : laws) {
            t.know(law);
        }
        return t;
    }

    /** Promise 21: "BAD" of the heap, x, the PUSH (-9 .. 9). */
    private static void triesBounds() {
        Edges.between("21: the heap", 0, 4095, BAD, Works::full, (t, v) -> t.tries(v, 1, 1));
        Edges.between("21: the heap without rows", 0, 0, BAD, Works::fresh, (t, v) -> t.tries(v, 1, 1));
        Edges.between("21: x", -99, 99, BAD, Works::lived, (t, v) -> t.tries(1, v, 1));
        Edges.between("21: u", -9, 9, BAD, Works::lived, (t, v) -> t.tries(1, 1, v));
        Edges.refusedOutside("21: u as a row's", -99, 99, BAD, Works::lived, (t, v) -> t.tries(1, 1, v));
    }

    /** Promise 21: "NONE: the HEAP is not WHOLE"; BAD is named first. */
    private static void triesNone() {
        Edges.refused("21: not whole", NONE, Works::lived, t -> t.tries(9, 1, 1));
        Edges.refused("21: a row that meets no law", NONE, () -> oneRow(0, 4, 0, 9), t -> t.tries(1, 1, 1));
        Edges.refused("21: BAD x before NONE", BAD, Works::lived, t -> t.tries(9, 100, 1));
        Edges.refused("21: BAD u before NONE", BAD, Works::lived, t -> t.tries(9, 1, -10));
    }

    /** Terms: LEFT at worst, "the most LAWS": from none to all. */
    private static void triesEmptyAndAll() {
        Due.be("21: all laws alike", 289, withError(0).tries(0, 0, 0));
        Due.be("21: no end is met", 0, oneLaw(3, 0).tries(3, 1, 0));
        Due.be("21: of 1 quarter no end is met", 0, oneLaw(1, 0).tries(3, 1, 0));
        Due.be("21: of 4 quarters one is", 1, oneLaw(4, 0).tries(3, 1, 0));
        Due.be("21: of all laws at 99", 1, withError(0).tries(0, 99, 5));
        Due.be("21: pushes of both signs", withError(1).tries(0, 5, 9), withError(1).tries(0, 5, -9));
    }

    /** Terms: "over all ENDS y (any whole number)", also beyond -99 .. 99. */
    private static void triesAnyEnd() {
        Due.be("21: the end is 216", 1, oneLaw(8, 8).tries(3, 99, 9));
        Due.be("21: the end is -216", 1, oneLaw(8, 8).tries(3, -99, -9));
        Due.be("21: the end is -216 by laws below 0", 1, oneLaw(-8, -8).tries(3, 99, 9));
        Due.be("21: the end is 100", 1, oneLaw(4, 4).tries(3, 99, 1));
        Due.be("21: the end is -100", 1, oneLaw(-4, 4).tries(3, 99, -1));
        TwoLaws t = oneRow(20, 40, 0, 99);
        t.row(0, 40, 99);
        Due.be("21: one law within an error of 20", 288, t.lets(3, -1) == 1 ? t.lets(3, 0) : NONE);
        Due.be("21: ends of 196 to 236", 1, t.tries(3, 99, 9));
        Due.be("21: ends of -236 to -196", 1, t.tries(3, -99, -9));
    }

    /** Promise 22: "BAD less 1000000" of the heap, x. */
    private static void bestBounds() {
        Edges.between("22: the heap", 0, 31, Edges.BAD_BELOW, Works::lived, (t, v) -> t.best(v, 1));
        Edges.between("22: the heap of a full one", 0, 4095, Edges.BAD_BELOW, Works::full, (t, v) -> t.best(v, 1));
        Edges.between("22: the heap without rows", 0, 0, Edges.BAD_BELOW, Works::fresh, (t, v) -> t.best(v, 1));
        Edges.between("22: x", -99, 99, Edges.BAD_BELOW, Works::lived, (t, v) -> t.best(1, v));
    }

    /** Promise 22: "NONE less that"; BAD is named first. */
    private static void bestNone() {
        Edges.refused("22: not whole", Edges.NONE_BELOW, Works::lived, t -> t.best(9, 1));
        Edges.refused("22: a row that meets no law", Edges.NONE_BELOW, () -> oneRow(0, 4, 0, 9), t -> t.best(1, 1));
        Edges.refused("22: BAD x before NONE", Edges.BAD_BELOW, Works::lived, t -> t.best(9, 100));
        Edges.refused("22: BAD x below before NONE", Edges.BAD_BELOW, Works::lived, t -> t.best(9, -100));
    }

    /** Terms: "of like ones the least size, of these the one above 0 first". */
    private static void bestOfLikeOnes() {
        TwoLaws one = oneRow(1, 99, 0, 99);
        one.row(0, 99, 99);
        Due.be("22: one law, met by an end of every push", 1, one.lets(3, -1));
        Due.be("22: all leave one, the least size is 0", 0, one.best(3, 5));
        Due.be("22: 1 and -1 leave none, 0 leaves one", 1, oneRow(0, 0, 2, 1).best(1, 4));
        Due.be("22: 2 and -2 leave none, 0 and 1 leave one", 2, oneRow(0, 2, 4, 1).best(1, 1));
        Due.be("22: 9 and -9 leave the fewest", 9, withError(0).best(0, 1));
    }

    /** Terms: "for a PUSH (-9 .. 9)": the last on either side, if it alone is best. */
    private static void bestAtTheEnds() {
        Due.be("22: -1 leaves none, 1 leaves one", -1, oneRow(0, 2, 2, 1).best(1, 3));
        Due.be("22: -9", -9, oneRow(1, 1, 1, 4).best(1, 6));
        Due.be("22: -9 leaves three", 3, oneRow(1, 1, 1, 4).tries(1, 6, -9));
        Due.be("22: 9 leaves more", 5, oneRow(1, 1, 1, 4).tries(1, 6, 9));
        Due.be("22: 9 leaves four times 17, 11 were better", 9, withError(4).best(0, 0));
        Due.be("22: 9, where -9 leaves more", 9, oneRow(1, 1, -1, 4).best(1, 6));
    }

    /** Promise 23: "BAD less 1000000" of either law, x. */
    private static void apartBounds() {
        Edges.between("23: the law", 0, 288, Edges.BAD_BELOW, Works::lived, (t, v) -> t.apart(v, 144, 50));
        Edges.between("23: the other", 0, 288, Edges.BAD_BELOW, Works::lived, (t, v) -> t.apart(144, v, 50));
        Edges.between("23: x", -99, 99, Edges.BAD_BELOW, Works::lived, (t, v) -> t.apart(0, 288, v));
        Edges.between("23: x of a fresh one", -99, 99, Edges.BAD_BELOW, Works::fresh, (t, v) -> t.apart(0, 288, v));
    }

    /** Promise 23: "NONE less that: none of -9 .. 9 does". */
    private static void apartNone() {
        int law = Due.law(0, 4);
        int other = Due.law(0, -4);
        Edges.taken("23: 9 does, 72 quarters", 9, () -> withError(8), t -> t.apart(law, other, 0));
        Edges.refused("23: 10 were needed", Edges.NONE_BELOW, () -> withError(9), t -> t.apart(law, other, 0));
        Edges.taken("23: -9 does", -9, () -> withError(10), t -> t.apart(Due.law(0, 0), Due.law(-8, 8), 2));
        Edges.refused("23: no push can, of state 0 and like parts", Edges.NONE_BELOW, Works::fresh,
            t -> t.apart(Due.law(3, 4), Due.law(-3, 4), 0));
    }

    /** Terms: "if no END, any whole number, MEETS both". */
    private static void apartAtTheError() {
        Due.be("23: -4 and 4 meet at 0", 1, withError(1).apart(Due.law(-4, 0), Due.law(4, 1), 1));
        Due.be("23: -3 and 5 meet at no whole end", 0, withError(1).apart(Due.law(-3, 0), Due.law(5, 0), 1));
        Due.be("23: -4 and 5 are too far", 0, withError(1).apart(Due.law(-4, 0), Due.law(5, 0), 1));
        Due.be("23: like sums meet, if whole", 1, withError(0).apart(Due.law(4, 0), Due.law(4, 1), 1));
        Due.be("23: like sums meet at no whole end", 0, withError(0).apart(Due.law(3, 0), Due.law(3, 1), 1));
        Due.be("23: ends beyond 99 count", Edges.NONE_BELOW, withError(20).apart(Due.law(8, 0), Due.law(7, 0), 99));
        Due.be("23: ends below -99 count", Edges.NONE_BELOW, withError(20).apart(Due.law(8, 0), Due.law(7, 0), -99));
    }

    /** Terms: "the PUSH of least size that does so, of like ones the one above 0". */
    private static void apartOfLikeOnes() {
        Due.be("23: 0 does", 0, withError(0).apart(Due.law(4, 4), Due.law(8, 8), 1));
        Due.be("23: 1 and -1 do", 1, withError(0).apart(Due.law(0, 4), Due.law(0, 8), 0));
        Due.be("23: the order of laws is nothing", 1, withError(0).apart(Due.law(0, 8), Due.law(0, 4), 0));
        Due.be("23: -1 alone of size 1", -1, withError(1).apart(Due.law(4, -4), Due.law(-4, 4), 1));
    }

    /** "two LAWS" may be one: told apart, where it meets no whole end. */
    private static void apartFromItself() {
        Edges.taken("23: no whole end", 0, () -> withError(0), t -> t.apart(Due.law(1, 0), Due.law(1, 0), 1));
        Edges.refused("23: always a whole end", Edges.NONE_BELOW, () -> withError(0), t -> t.apart(144, 144, 1));
        Edges.refused("23: an error of 1 has a whole end always", Edges.NONE_BELOW, Works::fresh, t -> t.apart(145, 145, 1));
    }

    /** Promise 24: "BAD"; "its number", 0 .. 3 as they come. */
    private static void knowBounds() {
        Edges.between("24: the law", 0, 288, BAD, Works::lived, TwoLaws::know);
        Edges.between("24: the first law", 0, 288, BAD, Works::fresh, TwoLaws::know);
        TwoLaws t = Works.fresh();
        int[] laws = {288, 0, 144, 287};
        for (int k = 0; k < 4; k++) {
            Due.be("24: number " + k, k, t.know(laws[k]));
            Due.be("24: how many", k + 1, t.count(2));
        }
    }

    /** Promise 24: "NOT: it is known", the first as the last. */
    private static void knowNot() {
        for (int law : new int[] {Due.law(4, 4), Due.law(4, -4), Due.law(-8, 0)}) {
            Edges.refused("24: known, " + law, NOT, Works::lived, t -> t.know(law));
        }
        Edges.taken("24: law 0 is not known ahead", 0, Works::fresh, t -> t.know(0));
    }

    /** Promise 24: "FULL: 4"; BAD and NOT are named first. */
    private static void knowFull() {
        Edges.taken("24: the fourth", 3, Works::lived, t -> t.know(1));
        Edges.refused("24: the fifth", FULL, Works::full, t -> t.know(1));
        Edges.refused("24: BAD before FULL", BAD, Works::full, t -> t.know(289));
        Edges.refused("24: BAD below before FULL", BAD, Works::full, t -> t.know(-1));
        for (int law : new int[] {0, 288, 144, Due.law(4, 4)}) {
            Edges.refused("24: NOT before FULL, " + law, NOT, Works::full, t -> t.know(law));
        }
    }

    /** Promise 24: "all may be then". */
    private static void knowAllMayBe() {
        TwoLaws t = Works.lived();
        Due.be("24: one may be", 0b0010, t.watch(0, 0, 0));
        t.know(Due.law(4, 4));
        Due.be("24: a refused one leaves it so", 0b0010, t.watch(0, 0, 0));
        t.know(0);
        Due.be("24: all four may be", 0b1111, t.watch(0, 0, 0));
        Due.be("24: rows that were watched stay counted", 5, t.count(3));
        Due.be("24: and the one that rang", 1, t.count(4));
    }

    /** Promise 25: "a span of STATES (-9999 .. 9999)"; "BAD". */
    private static void boxBounds() {
        Edges.between("25: from", -FAR, FAR, BAD, Works::lived, (t, v) -> t.box(v, FAR));
        Edges.between("25: to", -FAR, FAR, BAD, Works::lived, (t, v) -> t.box(-FAR, v));
        Edges.refused("25: both too great", BAD, Works::lived, t -> t.box(10000, 10000));
        Edges.refused("25: both too little", BAD, Works::lived, t -> t.box(-10000, -10000));
        for (int[] span : new int[][] {{-FAR, FAR}, {FAR, FAR}, {-FAR, -FAR}, {0, 0}}) {
            TwoLaws t = Works.lived();
            Due.be("25: from " + span[0], 1, t.box(span[0], span[1]));
            Due.be("25: its least", span[0], t.holds(0));
            Due.be("25: its greatest", span[1], t.holds(1));
        }
    }

    /** Promise 25: "BAD: also from above to". */
    private static void boxFromAboveTo() {
        Edges.taken("25: from as to", 1, Works::lived, t -> t.box(5, 5));
        Edges.refused("25: one above", BAD, Works::lived, t -> t.box(6, 5));
        Edges.refused("25: far above", BAD, Works::lived, t -> t.box(FAR, -FAR));
        Edges.refused("25: one above, below 0", BAD, Works::fresh, t -> t.box(-5, -6));
    }

    /** Promise 26: "a PUSH (-99 .. 99): 1. BAD". */
    private static void stepBounds() {
        Edges.between("26: u", -99, 99, BAD, Works::lived, TwoLaws::step);
        stepped("the farthest push", knowing(0, Due.law(4, 4)), 0, 0, 99, 99, 99);
        stepped("the farthest push below", knowing(0, Due.law(4, 4)), 0, 0, -99, -99, -99);
    }

    /** Promise 26: "NONE: no KNOWN LAW"; BAD is named first. */
    private static void stepNone() {
        Edges.refused("26: no known law", NONE, Works::fresh, t -> t.step(1));
        Edges.refusedOutside("26: BAD before NONE", -99, 99, BAD, Works::fresh, TwoLaws::step);
        Edges.taken("26: one known law", 1, () -> knowing(1, 0), t -> t.step(1));
    }

    private static void stepped(String name, TwoLaws t, int from, int to, int u, int low, int high) {
        t.box(from, to);
        Due.be("26: " + name, 1, t.step(u));
        Due.be("26: " + name + ", low", low, t.holds(0));
        Due.be("26: " + name + ", high", high, t.holds(1));
    }

    /** Terms: "by 4, to the lower whole one, ... by 4, to the higher whole one", of both signs. */
    private static void stepToWholeOnes() {
        int[] lows = {-2, -2, -1, -1, -1, -1, 0, 0, 0, 0, 1, 1};
        int[] highs = {-1, -1, -1, 0, 0, 0, 0, 1, 1, 1, 1, 2};
        for (int k = 0; k < lows.length; k++) {
            int quarters = k - 6;
            stepped(quarters + " quarters", knowing(0, Due.law(1, 0)), quarters, quarters, 0, lows[k], highs[k]);
            stepped(quarters + " quarters, error 20", knowing(20, Due.law(1, 0)), quarters, quarters, 0, lows[k] - 20, highs[k] + 20);
        }
        stepped("a part below 0 turns the ends", knowing(0, Due.law(-4, 0)), -3, 5, 0, -5, 3);
        stepped("the least of one law, the greatest of another", knowing(0, Due.law(4, 0), Due.law(0, 4)), 2, 3, 7, 2, 7);
        stepped("the least of the second law's low end", knowing(0, 144, Due.law(4, 0)), -5, 3, 0, -5, 3);
        stepped("the greatest of the second law's low end", knowing(0, 144, Due.law(-4, 0)), -5, -3, 0, 0, 5);
        stepped("of the fourth law", knowing(0, 144, 145, 146, Due.law(8, 8)), 4, 8, 4, 0, 24);
    }

    /** Terms: "held to -9999 .. 9999". */
    private static void stepHeld() {
        stepped("9999 stays", knowing(0, Due.law(4, 0)), FAR, FAR, 0, FAR, FAR);
        stepped("-9999 stays", knowing(0, Due.law(4, 0)), -FAR, -FAR, 0, -FAR, -FAR);
        stepped("9998 and 1", knowing(1, Due.law(4, 0)), 9998, 9998, 0, 9997, FAR);
        stepped("9999 and 1", knowing(1, Due.law(4, 0)), FAR, FAR, 0, 9998, FAR);
        stepped("-9999 and 1", knowing(1, Due.law(4, 0)), -FAR, -FAR, 0, -FAR, -9998);
        stepped("both ends beyond", knowing(20, Due.law(8, 8)), 5050, FAR, 99, FAR, FAR);
        stepped("both ends below", knowing(20, Due.law(8, 8)), -FAR, -5050, -99, -FAR, -FAR);
        stepped("beyond on both sides", knowing(20, 0, 288), -FAR, FAR, 99, -FAR, FAR);
        stepped("turned round", knowing(0, Due.law(-8, 0)), -FAR, FAR, 0, -FAR, FAR);
    }

    /** Promise 27: "its least (0), greatest (1) STATE. BAD less 1000000." */
    private static void holdsBounds() {
        Edges.between("27: what", 0, 1, Edges.BAD_BELOW, Works::lived, TwoLaws::holds);
        Edges.between("27: what of a fresh one", 0, 1, Edges.BAD_BELOW, Works::fresh, TwoLaws::holds);
        Edges.taken("27: the least", -30, Works::lived, t -> t.holds(0));
        Edges.taken("27: the greatest", 40, Works::lived, t -> t.holds(1));
    }

    /** Promise 28: "BAD" of u, "n STEPS (1 .. 40) within bounds (-9999 .. 9999)". */
    private static void brakeBounds() {
        Edges.between("28: u", -99, 99, BAD, Works::lived, (t, v) -> t.brake(v, 1, -5, 5));
        Edges.between("28: n", 1, 40, BAD, Works::lived, (t, v) -> t.brake(1, v, -5, 5));
        Edges.between("28: low", -FAR, FAR, BAD, Works::lived, (t, v) -> t.brake(1, 1, v, FAR));
        Edges.between("28: high", -FAR, FAR, BAD, Works::lived, (t, v) -> t.brake(1, 1, -FAR, v));
    }

    /** Promise 28: "BAD: also low above high". */
    private static void brakeLowAboveHigh() {
        Edges.taken("28: low as high", 1, Works::lived, t -> t.brake(1, 1, 5, 5));
        Edges.refused("28: one above", BAD, Works::lived, t -> t.brake(1, 1, 6, 5));
        Edges.refused("28: far above", BAD, Works::lived, t -> t.brake(1, 1, FAR, -FAR));
    }

    /** Promise 28: "NOT: no KNOWN LAW"; BAD is named first. */
    private static void brakeNot() {
        Edges.refused("28: no known law", NOT, Works::fresh, t -> t.brake(1, 1, -5, 5));
        Edges.refused("28: no known law, always within", NOT, Works::fresh, t -> t.brake(0, 40, -FAR, FAR));
        Edges.refusedOutside("28: BAD u before NOT", -99, 99, BAD, Works::fresh, (t, v) -> t.brake(v, 1, 0, 0));
        Edges.refusedOutside("28: BAD n before NOT", 1, 40, BAD, Works::fresh, (t, v) -> t.brake(1, v, 0, 0));
        Edges.refusedOutside("28: BAD low before NOT", -FAR, 0, BAD, Works::fresh, (t, v) -> t.brake(1, 1, v, 0));
        Edges.refusedOutside("28: BAD high before NOT", 0, FAR, BAD, Works::fresh, (t, v) -> t.brake(1, 1, 0, v));
    }

    /** By a step a push comes to the state: the box is 10 to 12 at first. */
    private static TwoLaws rolling() {
        TwoLaws t = knowing(0, Due.law(4, 4));
        t.box(10, 12);
        return t;
    }

    /** Promise 28: "NONE: it is in time". */
    private static void brakeNone() {
        Edges.refused("28: within at both bounds", NONE, TrialsEdgesTest::rolling, t -> t.brake(0, 40, 10, 12));
        Edges.refused("28: 13 is not behind step 0", NONE, TrialsEdgesTest::rolling, t -> t.brake(1, 1, 11, 13));
        Edges.refused("28: 52 behind step 40", NONE, TrialsEdgesTest::rolling, t -> t.brake(1, 40, 0, 52));
        Edges.refused("28: -30 behind step 40", NONE, TrialsEdgesTest::rolling, t -> t.brake(-1, 40, -30, 12));
        Edges.refused("28: n steps alone", NONE, TrialsEdgesTest::rolling, t -> t.brake(1, 5, 0, 17));
        Edges.refused("28: held, so within", NONE, TrialsEdgesTest::rolling, t -> t.brake(99, 40, -FAR, FAR));
    }

    /** Terms: "the first STEP (1 .. n) behind which the BOX is not within told bounds". */
    private static void brakeFirstAndLast() {
        Due.be("28: behind step 1, above", 1, rolling().brake(1, 40, 0, 12));
        Due.be("28: behind step 1, below", 1, rolling().brake(1, 40, 12, 99));
        Due.be("28: of one step", 1, rolling().brake(1, 1, 0, 12));
        Due.be("28: the last of n", 5, rolling().brake(1, 5, 0, 16));
        Due.be("28: one step more than n", NONE, rolling().brake(1, 4, 0, 16));
        Due.be("28: behind step 40", 40, rolling().brake(1, 40, 0, 51));
        Due.be("28: behind step 40, below", 40, rolling().brake(-1, 40, -29, 12));
        Due.be("28: a box outside at first", NONE, rolling().brake(-10, 1, 0, 2));
        Due.be("28: a box outside at first and behind", 1, rolling().brake(-10, 1, 1, 2));
    }

    /** Promise 28: "the BOX stays". */
    private static void brakeLeavesTheBox() {
        Edges.changesNothing("28: behind an answer", 5, TrialsEdgesTest::rolling, t -> t.brake(1, 5, 0, 16));
        Edges.changesNothing("28: of a lived one", 1, Works::lived, t -> t.brake(1, 1, 5, 5));
        TwoLaws t = rolling();
        t.brake(1, 40, 0, 51);
        t.step(1);
        Due.be("28: the next step is from the box, low", 11, t.holds(0));
        Due.be("28: the next step is from the box, high", 13, t.holds(1));
    }

    /** Promise 29: "BAD" of x, u, y (-99 .. 99 each). */
    private static void watchBounds() {
        Edges.between("29: x", -99, 99, BAD, Works::lived, (t, v) -> t.watch(v, 1, 1));
        Edges.between("29: u", -99, 99, BAD, Works::lived, (t, v) -> t.watch(1, v, 1));
        Edges.between("29: y", -99, 99, BAD, Works::lived, (t, v) -> t.watch(1, 1, v));
    }

    /** Promise 29: "NOT: no KNOWN LAW"; BAD is named first. */
    private static void watchNot() {
        Edges.refused("29: no known law", NOT, Works::fresh, t -> t.watch(1, 1, 1));
        Edges.refusedOutside("29: BAD x before NOT", -99, 99, BAD, Works::fresh, (t, v) -> t.watch(v, 1, 1));
        Edges.refusedOutside("29: BAD u before NOT", -99, 99, BAD, Works::fresh, (t, v) -> t.watch(1, v, 1));
        Edges.refusedOutside("29: BAD y before NOT", -99, 99, BAD, Works::fresh, (t, v) -> t.watch(1, 1, v));
    }

    /** Terms: "leaves those that it MEETS", within the error. */
    private static void watchAtTheError() {
        int above = Due.law(4, 0);
        int beyond = Due.law(5, 0);
        Due.be("29: 4 quarters off is met, 5 not", 0b01, knowing(1, above, beyond).watch(1, 0, 0));
        Due.be("29: below as well", 0b01, knowing(1, above, beyond).watch(-1, 0, 0));
        Due.be("29: the error of 20", 0b01, knowing(20, 144, 145).watch(0, 1, -20));
        TwoLaws t = knowing(0, above, beyond);
        Due.be("29: neither", 16 + 0b11, t.watch(1, 0, 0));
        t.error(1);
        Due.be("29: by the error that is", 0b01, t.watch(1, 0, 0));
        t.error(20);
        Due.be("29: what is gone stays gone", 0b01, t.watch(1, 0, 0));
    }

    /** Terms: "if it leaves none: it RINGS, and all ... that the ROW MEETS may be then (all of them, if there is none)". */
    private static void watchRings() {
        TwoLaws t = knowing(0, Due.law(4, 0), Due.law(0, 4), Due.law(4, 4));
        Due.be("29: one is left, no ring", 0b001, t.watch(1, 1, 1) & t.watch(1, 0, 1) & t.watch(2, 1, 2));
        Due.be("29: a ring, two may be", 16 + 0b110, t.watch(0, 1, 1));
        Due.be("29: a ring, by none: all may be", 16 + 0b111, t.watch(1, 1, 9));
        Due.be("29: a ring again, by none: all may be", 16 + 0b111, t.watch(1, 1, 9));
        Due.be("29: watched", 6, t.count(3));
        Due.be("29: rang", 3, t.count(4));
        Due.be("29: met by law 0, which is not known: all may be", 16 + 0b1, knowing(0, Due.law(4, 0)).watch(4, 0, -8));
        Due.be("29: law 0 is not the fourth", 16 + 0b111, knowing(0, 288, 287, 144).watch(4, 4, -16));
        Due.be("29: one law alone is left", 1, knowing(1, 144).watch(0, 0, 1));
        Due.be("29: one law alone rings", 17, knowing(1, 144).watch(0, 0, 2));
    }

    /** Terms: "at first all KNOWN LAWS may be", up to four. */
    private static void watchOfFourLaws() {
        TwoLaws t = Works.full();
        Due.be("29: all four", 0b1111, t.watch(0, 0, 0));
        Due.be("29: the second alone", 0b0010, t.watch(8, 0, 16));
        Due.be("29: the fourth alone, a ring", 16 + 0b1000, t.watch(8, 0, 8));
        Due.be("29: all four, a ring", 16 + 0b1111, t.watch(0, 0, 99));
        Due.be("29: no row comes of it", 12, t.count(0));
    }

    /** "An object is used for at most 512 calls": the counts are right up to the last. */
    private static void watchUpToTheLastCall() {
        TwoLaws t = Works.fresh();
        t.know(144);
        for (int call = 2; call <= 510; call++) {
            Due.be("29: call " + call, 17, t.watch(0, 0, 99));
        }
        Due.be("29: call 511, watched", 509, t.count(3));
        Due.be("29: call 512, rang", 509, t.count(4));
    }
}
