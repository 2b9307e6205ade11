import java.util.function.Supplier;

/** The document from its first line to the end of its terms, sentence by sentence. */
public final class TermsSentencesTest {
    private static final String TWELVE = "x1u1y1;".repeat(11) + "x1u1y1";

    public static void main(String[] args) {
        whatItIs();
        Sentences terms = Sentences.of("Terms");
        answersBelowNone(terms);
        rows(terms);
        texts(terms);
        sheets(terms);
        partings(terms);
        spansAndLines(terms);
        hoursAndWear(terms);
        tries(terms);
        boxes(terms);
        watch(terms);
        terms.end();
        Due.end();
    }

    private static void on(String name, Supplier<TwoLaws> made, String calls) {
        Script.run(name, made.get(), calls);
    }

    private static void whatItIs() {
        Sentences.of("What it is")
            .tells("Two laws by turns: rows of a works (a state, a push, what came of it), each by one of some laws that nobody kept; laws "
                + "are sums in quarters, within an error always; which laws a row, a heap of rows lets; the fewest laws by which all rows "
                + "are met, how many rows must be let go for a told number; which two rows are surely together, surely not; spans "
                + "foretold; lines and hours that part two heaps; the push to try next, a push that tells two laws apart whatever the "
                + "errors; boxes that hold all states to come, a brake in time; a watch that narrows, rings; laws that wear; sheets of "
                + "rows that may be missing.")
            .says("An object is used for at most 512 calls after it has been made; what later calls answer is free.",
                "know(144) = 0; " + "watch(0, 0, 9) = 17; ".repeat(509) + "count(3) = 509; count(4) = 509",
                "clear() = 0; row(1, 1, 1) = 0; ".repeat(1) + "clear() = 1; row(1, 1, 1) = 0; ".repeat(254) + "clear() = 1; fewest() = 0",
                "type('x1u1y?') = 6; text() = 1; clear() = 1; ".repeat(170) + "type('x') = 1; text() = -21")
            .end();
    }

    private static void answersBelowNone(Sentences terms) {
        terms.says("Answers below 0, of several the first that a call names:", () -> {
            on("order of a full one", Works::full, "row(100, 0, 0) = BAD; gap(0, 100) = BAD; row(0, 0, 0) = FULL; type(31, 1) = BAD; "
                + "type(32, 1) = FULL; told(11, 3) = BAD-1000000; know(289) = BAD; know(288) = NOT; know(1) = FULL; "
                + "rows(2, 2, 34, 1) = INDEX; item(2, 2, 35, 100) = 1; rows(2, 2, 33, 1) = NOT; rows(2, 2, 30, 1) = FULL; "
                + "rows(2, 2, 34, 13) = BAD; rows(2, 1, 34, 1) = CAST");
            on("order of a lived one", Works::lived, "lets(9, -2) = BAD; lets(9, 0) = NONE; error(0) = 2; span(9, 0, 0, 2) = BAD-1000000; "
                + "span(9, 0, 0, 0) = NONE-1000000; line(1, 8, 3) = BAD-1000000; line(1, 8, 0) = NONE-1000000; hours(32, 1) = BAD; "
                + "hours(1, 1) = NONE; wear(288, 1, 2) = BAD; wear(288, 1, 1) = NOT; wear(144, 1, 1) = NONE; tries(9, 0, 10) = BAD; "
                + "tries(9, 0, 0) = NONE; best(9, 100) = BAD-1000000; best(9, 0) = NONE-1000000; apart(144, 144, 100) = BAD-1000000; "
                + "apart(144, 144, 0) = NONE-1000000; check(3, 3, -1) = BAD; check(3, 0, -1) = NULL; check(0, 1, -1) = CAST; "
                + "item(0, 0, 8, 12) = 1; check(0, 0, 5) = INDEX; check(0, 0, 4) = NOT; item(3, 3, -1, 0) = BAD; item(3, 0, -1, 0) = NULL; "
                + "item(0, 1, -1, 0) = CAST; item(0, 0, -1, 0) = INDEX; copy(3, -1, 4, 0, 1) = BAD; copy(3, -1, 0, 0, 1) = NULL; "
                + "copy(0, -1, 1, 0, 1) = CAST; copy(0, -1, 0, 0, 1) = INDEX; rows(3, 3, -1, 1) = BAD; rows(3, 0, -1, 1) = NULL; "
                + "rows(0, 1, -1, 1) = CAST; rows(0, 0, -1, 1) = INDEX; sheet(0, 3, -1) = BAD; sheet(0, 0, -1) = SIZE; drop(4) = BAD; "
                + "drop(3) = NULL");
            on("order of a fresh one", Works::fresh, "step(100) = BAD; step(1) = NONE; brake(0, 0, 0, 0) = BAD; brake(0, 1, 0, 0) = NOT; "
                + "watch(0, 0, 100) = BAD; watch(0, 0, 0) = NOT");
            on("order without a parting", () -> Works.byEnds(3, 9), "together(0, 0) = BAD; together(0, 2) = BAD; together(0, 1) = NONE");
        });
        terms.says("BAD -1 (a number is not as told, there is no such thing), NOT -2 (as told), FULL -3, NONE -4 (as told);", () -> {
            on("a number is not as told", Works::fresh, "row(100, 0, 0) = -1; error(21) = -1");
            on("there is no such thing", Works::fresh, "meets(0, 0) = -1; lets(1, -1) = -1; hours(1, 0) = -1");
            on("as told", Works::fresh, "watch(0, 0, 0) = -2; wear(288, 1, 0) = -2; step(0) = -4; lets(0, 289) = -4");
            on("full", Works::full, "row(0, 0, 0) = -3; know(1) = -3; type(32, 1) = -3");
        });
        terms.says("what the machine finds: NULL -11, CAST -12, INDEX -13, SIZE -14, in this order.",
            "item(0, 0, 0, 0) = -11; sheet(0, 1, 3) = 3; item(0, 0, 0, 0) = -12; item(0, 1, 3, 0) = -13; sheet(0, 1, -1) = -14; "
                + "item(0, 0, 3, 0) = -12; item(1, 0, 3, 0) = -11; copy(0, 9, 1, 0, 1) = -11; sheet(1, 0, 3) = 3; copy(0, 9, 1, 0, 1) = -12");
        terms.says("What answers so changes nothing, but as told.", TermsSentencesTest::refusals);
        terms.says("Where numbers of both signs are told, refused ones are 1000000 less (-1000001 and so on).", () -> {
            on("BAD", Works::lived, "told(5, 0) = -1000001; span(32, 0, 0, 0) = -1000001; line(32, 0, 0) = -1000001; "
                + "best(32, 0) = -1000001; apart(289, 0, 0) = -1000001; holds(2) = -1000001");
            on("NONE", Works::lived, "error(0) = 2; told(2, 2) = -1000004; span(9, 0, 0, 0) = -1000004; line(1, 8, 0) = -1000004; "
                + "best(9, 0) = -1000004; apart(144, 144, 0) = -1000004");
            on("below 0 as they are", Works::fresh, "row(-1, -2, -3) = 0; told(0, 0) = -1; told(0, 1) = -2; told(0, 2) = -3; "
                + "span(0, 1, 0, 0) = -8; line(0, 0, 0) = -3; line(0, 0, 2) = -99; box(-4, -4) = 1; holds(0) = -4; holds(1) = -4");
        });
    }

    /** Each refused call on one of two like objects; all that later calls show must be alike. */
    private static void refusals() {
        String[] fresh = {"told(0, 0) = BAD-1000000", "meets(0, 0) = BAD", "lets(0, 289) = NONE", "step(1) = NONE",
                "brake(0, 1, 0, 0) = NOT",
            "watch(0, 0, 0) = NOT", "drop(0) = NULL", "item(0, 0, 0, 1) = NULL", "copy(0, 0, 1, 0, 1) = NULL", "rows(0, 0, 0, 1) = NULL",
            "check(0, 0, 0) = NULL", "know(289) = BAD", "box(1, 0) = BAD", "sheet(0, 0, -1) = SIZE", "sheet(0, 0, 37) = BAD"};
        String[] lived = {"row(100, 0, 0) = BAD", "gap(0, 100) = BAD", "rows(0, 0, 0, 13) = BAD", "rows(3, 0, 0, 1) = NULL",
            "rows(0, 1, 0, 1) = CAST", "rows(0, 0, 7, 1) = INDEX", "type(31, 1) = BAD", "type(32, 9) = BAD", "type(8223, 2) = BAD",
            "told(5, 0) = BAD-1000000", "told(2, 2) = NONE-1000000", "error(21) = BAD", "meets(5, 0) = BAD", "lets(32, 0) = BAD",
            "lets(9, 0) = NONE", "count(5) = BAD", "letGo(7, 0) = BAD", "together(1, 1) = BAD",
            "span(9, 0, 0, 0) = NONE-1000000", "span(1, 100, 0, 0) = BAD-1000000", "line(1, 1, 0) = BAD-1000000",
            "line(1, 8, 0) = NONE-1000000", "hours(1, 1) = NONE", "hours(32, 0) = BAD", "wear(144, 0, 0) = BAD", "wear(288, 1, 0) = NOT",
            "wear(144, 1, 0) = NONE", "check(4, 0, 0) = BAD", "check(0, 0, 5) = INDEX", "check(0, 1, 0) = CAST", "tries(9, 0, 0) = NONE",
            "tries(1, 0, 10) = BAD", "best(9, 0) = NONE-1000000", "best(1, 100) = BAD-1000000", "apart(0, 0, 100) = BAD-1000000",
            "apart(144, 144, 0) = NONE-1000000", "know(289) = BAD", "know([4 4]) = NOT", "box(1, 0) = BAD", "box(0, 10000) = BAD",
            "step(100) = BAD", "holds(2) = BAD-1000000", "brake(0, 0, 0, 0) = BAD", "brake(0, 1, -9999, 9999) = NONE",
            "watch(100, 0, 0) = BAD", "watch(0, 0, -100) = BAD", "sheet(0, 0, 37) = BAD", "sheet(0, 0, -1) = SIZE", "drop(4) = BAD",
            "drop(3) = NULL", "item(0, 0, 9, 1) = INDEX", "item(0, 1, 0, 1) = CAST", "copy(0, 0, 1, 0, 1) = CAST",
            "copy(0, 0, 0, 9, 1) = INDEX", "copy(0, 0, 0, 1, -1) = INDEX"};
        String[] full = {"row(0, 0, 0) = FULL", "gap(0, 0) = FULL", "rows(2, 2, 1, 1) = FULL", "know(1) = FULL", "type(32, 1) = FULL"};
        changeNothing(fresh, Works::fresh);
        changeNothing(lived, Works::lived);
        changeNothing(full, Works::full);
        changeNothing(new String[] {"fewest() = NONE", "together(0, 1) = NONE", "lets(2, 0) = NONE"}, () -> Works.byEnds(3, 9, 3));
        Script.run("a check that is NOT", "sheet(0, 2, 3) = 3; item(0, 2, 0, 12) = 1; row(1, 1, 1) = 0; check(0, 2, 0) = NOT; "
                + "count(0) = 1; check(0, 2, 1) = NONE; count(0) = 1; drop(0) = 3");
        Script.run("rows that are NOT", "sheet(0, 2, 6) = 6; item(0, 2, 5, 100) = 1; rows(0, 2, 0, 2) = NOT; count(0) = 0; drop(0) = 6");
        Script.run("but as told: a fault empties the tape", "type('zzz') = 3; text() = -20; type('x') = 1; text() = -21; count(0) = 0");
    }

    private static void changeNothing(String[] calls, Supplier<TwoLaws> made) {
        for (String call : calls) {
            TwoLaws touched = made.get();
            Script.run("refused", touched, call);
            Edges.sameTrace("behind " + call, made.get(), touched);
        }
    }

    private static void rows(Sentences terms) {
        terms.says("ROWS 0 .. 11, as they come: a STATE x, a PUSH u, an END y (-99 .. 99 each), or a GAP in place of y.",
            "row(-99, 99, -98) = 0; gap(99, -99) = 1; row(98, -97, 99) = 2; told(0, 0) = -99; told(0, 1) = 99; told(0, 2) = -98; "
                + "told(1, 0) = 99; told(1, 1) = -99; told(1, 2) = NONE-1000000; told(2, 0) = 98; told(2, 1) = -97; told(2, 2) = 99; "
                + "row(-100, 0, 0) = BAD; row(100, 0, 0) = BAD; row(0, -100, 0) = BAD; row(0, 100, 0) = BAD; row(0, 0, -100) = BAD; "
                + "row(0, 0, 100) = BAD; gap(-100, 0) = BAD; gap(100, 0) = BAD; gap(0, -100) = BAD; gap(0, 100) = BAD; count(0) = 3",
            "row(0, 0, 0) = 0; row(1, 0, 1) = 1; row(2, 0, 2) = 2; row(3, 0, 3) = 3; row(4, 0, 4) = 4; row(5, 0, 5) = 5; row(6, 0, 6) = 6; "
                + "row(7, 0, 7) = 7; row(8, 0, 8) = 8; row(9, 0, 9) = 9; gap(10, 0) = 10; row(11, 0, -11) = 11; row(12, 0, 12) = FULL; "
                + "gap(12, 0) = FULL; told(11, 0) = 11; told(11, 2) = -11; told(10, 0) = 10; told(10, 2) = NONE-1000000; count(0) = 12");
        terms.says("The ERROR is 0 .. 20 (1 at first).",
            "row(0, 0, 1) = 0; row(0, 0, 2) = 1; meets(0, 144) = 1; meets(1, 144) = 0; error(0) = 1; meets(0, 144) = 0; error(20) = 0; "
                + "meets(1, 144) = 1; error(21) = BAD; error(-1) = BAD; error(20) = 20");
        terms.says("A LAW is two PARTS a, b (-8 .. 8 each; its number: 17 (a and 8), and b and 8, together: 0 .. 288):",
            "error(0) = 1; row(4, 0, 3) = 0; row(0, 4, -2) = 1; lets(3, -1) = 1; lets(3, 0) = 193; meets(0, 193) = 1; meets(1, 193) = 1; "
                + "meets(0, 187) = 1; meets(0, 203) = 1; meets(0, 186) = 0; meets(0, 204) = 0; meets(1, 176) = 1; meets(1, 6) = 1; "
                + "meets(1, 192) = 0; meets(1, 194) = 0",
            "error(0) = 1; row(4, 0, -8) = 0; row(0, 4, -8) = 1; lets(3, -1) = 1; lets(3, 0) = 0; row(4, 0, 8) = 2; row(0, 4, 8) = 3; "
                + "lets(12, -1) = 1; lets(12, 0) = 288; lets(6, 0) = 272; lets(9, 0) = 16; row(4, 0, 9) = 4; row(0, 4, -9) = 5; "
                + "lets(16, -1) = 0; lets(32, -1) = 0; lets(0, -1) = 289; meets(0, -1) = BAD; meets(0, 289) = BAD");
        terms.says("a ROW MEETS it, if 4 y is no farther from a x and b u together than 4 ERROR (a GAP MEETS all).",
            "row(1, 1, 0) = 0; meets(0, [2 2]) = 1; meets(0, [3 2]) = 0; meets(0, [-2 -2]) = 1; meets(0, [-2 -3]) = 0; "
                + "meets(0, [8 -8]) = 1; error(0) = 1; row(1, 0, 1) = 1; meets(1, [4 0]) = 1; meets(1, [3 0]) = 0; meets(1, [5 0]) = 0; "
                + "row(-3, 5, -7) = 2; meets(2, [6 -2]) = 1; meets(2, [6 -3]) = 0; error(20) = 0; row(1, 0, -20) = 3; meets(3, [0 0]) = 1; "
                + "meets(3, [1 0]) = 0; row(99, -99, 99) = 4; meets(4, [8 0]) = 0; meets(4, [4 1]) = 0; meets(4, [4 0]) = 1",
            "error(0) = 1; gap(99, 99) = 0; meets(0, 0) = 1; meets(0, 288) = 1; meets(0, 144) = 1; lets(1, -1) = 289; count(1) = 1");
        terms.says("A HEAP (a set of ROWS, bits) lets those LAWS that all its ROWS MEET; it is WHOLE, if it lets some.",
            "error(0) = 1; row(4, 0, 3) = 0; row(0, 4, -2) = 1; row(4, 0, 5) = 2; lets(1, -1) = 17; lets(2, -1) = 17; lets(3, -1) = 1; "
                + "lets(3, 0) = [3 -2]; lets(6, 0) = [5 -2]; lets(5, -1) = 0; lets(7, -1) = 0; lets(0, -1) = 289; lets(8, -1) = BAD; "
                + "lets(-1, -1) = BAD; span(3, 1, 1, 0) = 1; span(5, 1, 1, 0) = NONE-1000000; span(0, 1, 1, 0) = -16; "
                + "tries(5, 0, 0) = NONE; tries(3, 0, 0) = 1; best(5, 0) = NONE-1000000; best(3, 0) = 1");
    }

    private static void texts(Sentences terms) {
        terms.says("As TEXT: 1 to 12 ROWS with ; between:",
            "text() = -20; type('" + TWELVE + "') = 83; text() = 12; count(0) = 12",
            "type('x1u2y3;x4u5y6') = 13; text() = 2; told(0, 0) = 1; told(0, 1) = 2; told(0, 2) = 3; told(1, 0) = 4; told(1, 1) = 5; "
                + "told(1, 2) = 6; type(';x1u2y3') = 7; text() = -20; type('x1u2y3;') = 7; text() = -27; type('x1u2y3;;x1u2y3') = 14; "
                + "text() = -27; type('x1u2y3x1u2y3') = 12; text() = -26; type('x1u2y3,x1u2y3') = 13; text() = -26; count(0) = 2");
        terms.says("x and a number, u and a number, y and a number or a ? (a GAP), in this order;",
            "type('x1u2y?;x3u4y5') = 13; text() = 2; told(0, 0) = 1; told(0, 1) = 2; told(0, 2) = NONE-1000000; told(1, 2) = 5; "
                + "count(1) = 1; type('u1x1y1') = 6; text() = -20; type('x1y1u1') = 6; text() = -22; type('x1u1x1') = 6; text() = -24; "
                + "type('x?u1y1') = 6; text() = -21; type('x1u?y1') = 6; text() = -23; type('xu1y1') = 5; text() = -21; type('x1uy1') = 5; "
                + "text() = -23; type('x1u1y') = 5; text() = -25; type('X1u1y1') = 6; text() = -20; type('x1u1y??') = 7; text() = -26");
        terms.says("a number is perhaps - and 0 .. 99.",
            "type('x-99u99y-0') = 10; text() = 1; told(0, 0) = -99; told(0, 1) = 99; told(0, 2) = 0; type('x0u-10y9') = 8; text() = 1; "
                + "told(1, 0) = 0; told(1, 1) = -10; told(1, 2) = 9; type('x+1u1y1') = 7; text() = -21; type('x--1u1y1') = 8; "
                + "text() = -22; type('x-u1y1') = 6; text() = -22; type('x1-u1y1') = 7; text() = -22; type('x1.5u1y1') = 8; text() = -22; "
                + "type('x1u1y-?') = 7; text() = -26; type('x/u1y1') = 6; text() = -21; type('x:u1y1') = 6; text() = -21");
        terms.says("FAULTS: -20 less the place of the first byte (behind blanks) that can't stand there (the end: how many bytes there are);",
            "text() = -20; type('z') = 1; text() = -20; type('   z') = 4; text() = -23; type('x') = 1; text() = -21; type('x-') = 2; "
                + "text() = -22; type('x1') = 2; text() = -22; type('x1u') = 3; text() = -23; type('x1u2') = 4; text() = -24; "
                + "type('x1u2y') = 5; text() = -25; type('x1u2y3z') = 7; text() = -26; type('x1u2y3  z') = 9; text() = -28; "
                + "type('x   ') = 4; text() = -24; type('   ') = 3; text() = -23; type('x1u2y3;x1u2z3;z') = 15; text() = -31; count(0) = 0",
            "type('" + " ".repeat(120) + "') = 120; text() = -140; type('" + " ".repeat(119) + "x') = 120; text() = -140; type('"
                + " ".repeat(119) + "z') = 120; text() = -139");
        terms.says("bytes 32 count for nothing, but do not stand between two digits of a number;",
            "type('  x  -  12  u  7  y  -  3  ;  x 1 u 2 y  ?  ') = 44; text() = 2; told(0, 0) = -12; told(0, 1) = 7; told(0, 2) = -3; "
                + "told(1, 0) = 1; told(1, 1) = 2; told(1, 2) = NONE-1000000; type('x1 2u1y1') = 8; text() = -23; type('x1u1  2y1') = 9; "
                + "text() = -26; type('x1u1y1 2') = 8; text() = -27; type('x1 00u1y1') = 9; text() = -23; count(0) = 2");
        terms.says("of a number beyond its first byte (its -, if it has one);",
            "type('x100u1y1') = 8; text() = -21; type('x-100u1y1') = 9; text() = -21; type('x  100u1y1') = 10; text() = -23; "
                + "type('x - 100u1y1') = 11; text() = -22; type('x1u100y1') = 8; text() = -23; type('x1u1y-100') = 9; text() = -25; "
                + "type('x1u1y1;x1u1y999') = 15; text() = -32; type('x4294967297u1y1') = 15; text() = -21; type('x100z') = 5; "
                + "text() = -21; type('x18446744073709551617u1y1') = 25; text() = -21; type('x1u1y100') = 8; text() = -25; count(0) = 0",
            "type('x" + "9".repeat(119) + "') = 120; text() = -21");
        terms.says("of a thirteenth ROW (with those that there are) its x.",
            "type('" + TWELVE + ";x1u1y1') = 90; text() = -104; type('" + TWELVE + " ; x1u1y1') = 92; text() = -106; count(0) = 0; "
                + "row(0, 0, 0) = 0; type('" + TWELVE + "') = 83; text() = -97; count(0) = 1; type('" + TWELVE.substring(7) + "') = 76; "
                + "text() = 11; count(0) = 12; type('x1u1y1') = 6; text() = -20; type('  x1u1y1') = 8; text() = -22; count(0) = 12",
            "type('" + TWELVE.substring(7) + "') = 76; text() = 11; type('x1u1y1;x1u1y1') = 13; text() = -27; type('x1u1y1;x100') = 11; "
                + "text() = -27; type('x1u1y100;x1') = 11; text() = -25; type('x1u1y?') = 6; text() = 1; count(0) = 12; count(1) = 1");
    }

    private static void sheets(Sentences terms) {
        terms.says("SHEETS 0 .. 3 hold nothing (at first), or a row of a LANE: 0 bytes, 1 shorts, 2 ints, of 0 to 36 items (0 at first).",
                () -> {
            for (int s = 0; s <= 3; s++) {
                for (int lane = 0; lane <= 2; lane++) {
                    String run = "drop(S) = NULL; item(S, L, 0, 0) = NULL; sheet(S, L, 36) = 36; rows(S, L, 0, 12) = 12; told(0, 0) = 0; "
                    + "told(7, 1) = 0; told(11, 2) = 0; item(S, L, 35, 5) = 1; item(S, L, 36, 5) = INDEX; sheet(S, L, 37) = BAD; "
                    + "sheet(S, L, 0) = 0; item(S, L, 0, 5) = INDEX; sheet(S, L, 36) = 36; clear() = 12; rows(S, L, 33, 1) = 1; "
                    + "told(0, 2) = 0; drop(S) = 36; drop(S) = NULL";
                    Script.run("sheet " + s + " of lane " + lane, run.replace("(S", "(" + s).replace(" L,", " " + lane + ","));
                }
            }
            Script.run("no other sheets", "sheet(-1, 0, 1) = BAD; sheet(4, 0, 1) = BAD; drop(-1) = BAD; drop(4) = BAD");
            Script.run("no other lanes", "sheet(0, -1, 1) = BAD; sheet(0, 3, 1) = BAD");
            Script.run("bytes", "sheet(0, 0, 3) = 3; item(0, 0, 0, 257) = 1; item(0, 0, 1, 157) = 1; rows(0, 0, 0, 1) = 1; told(0, 0) = 1; "
                + "told(0, 1) = -99");
            Script.run("shorts", "sheet(0, 1, 3) = 3; item(0, 1, 0, 65537) = 1; item(0, 1, 1, 65437) = 1; rows(0, 1, 0, 1) = 1; "
                + "told(0, 0) = 1; told(0, 1) = -99; item(0, 1, 2, 257) = 1; rows(0, 1, 0, 1) = NOT");
            Script.run("ints", "sheet(0, 2, 3) = 3; item(0, 2, 0, -99) = 1; rows(0, 2, 0, 1) = 1; told(0, 0) = -99; "
                + "item(0, 2, 2, 65537) = 1; rows(0, 2, 0, 1) = NOT");
        });
    }

    private static void partings(Sentences terms) {
        terms.says("FEWEST: the least number of LAWS so that each ROW MEETS one of them (0 without ROWS; none, if some ROW MEETS no LAW).",
            "fewest() = 0; gap(1, 1) = 0; fewest() = 1; clear() = 1; fewest() = 0",
            "error(0) = 1; row(4, 0, -8) = 0; row(0, 4, -8) = 1; fewest() = 1; clear() = 2; row(4, 0, 8) = 0; row(0, 4, 8) = 1; fewest() = 1",
            "error(0) = 1; row(4, 0, 1) = 0; fewest() = 1; row(4, 0, 2) = 1; fewest() = 2; row(4, 0, 1) = 2; fewest() = 2; gap(4, 0) = 3; "
                + "fewest() = 2; row(4, 0, 8) = 4; fewest() = 3; row(0, 4, 8) = 5; fewest() = 3; row(4, 0, 9) = 6; fewest() = NONE; "
                + "error(1) = 0; fewest() = 2",
            "error(0) = 1; row(4, 0, 3) = 0; row(99, 98, 0) = 1; row(0, 4, 8) = 2; fewest() = 2; together(0, 2) = 2; together(0, 1) = 0",
            "row(4, 0, 0) = 0; row(4, 0, 1) = 1; row(4, 0, 2) = 2; row(4, 0, 3) = 3; row(4, 0, 4) = 4; row(4, 0, 5) = 5; fewest() = 2; "
                + "row(4, 0, 6) = 6; fewest() = 3",
            "error(0) = 1; row(4, 0, -8) = 0; row(4, 0, -7) = 1; row(4, 0, -6) = 2; row(4, 0, -5) = 3; row(4, 0, -4) = 4; "
                + "row(4, 0, -3) = 5; row(4, 0, -2) = 6; row(4, 0, -1) = 7; row(4, 0, 0) = 8; row(4, 0, 1) = 9; row(4, 0, 2) = 10; "
                + "row(4, 0, 3) = 11; fewest() = 12");
        terms.says("LET GO for k LAWS: the fewest ROWS that MEET none of k LAWS, chosen best;",
            "error(0) = 1; row(4, 0, 1) = 0; row(4, 0, 2) = 1; row(4, 0, 2) = 2; row(4, 0, 3) = 3; gap(1, 1) = 4; row(4, 0, 99) = 5; "
                + "letGo(0, 0) = 6; letGo(1, 0) = 3; letGo(2, 0) = 2; letGo(3, 0) = 1; letGo(4, 0) = 1; letGo(6, 0) = 1; letGo(0, 1) = 63; "
                + "letGo(1, 1) = 41; letGo(2, 1) = 33; letGo(3, 1) = 32; letGo(6, 1) = 32",
            "row(4, 0, 0) = 0; row(4, 0, 1) = 1; row(4, 0, 2) = 2; row(4, 0, 3) = 3; row(4, 0, 4) = 4; row(4, 0, 5) = 5; letGo(1, 0) = 3; "
                + "letGo(2, 0) = 0; letGo(2, 1) = 0", "letGo(0, 0) = 0; letGo(6, 1) = 0");
        terms.says("those rows: of like many the least bits.",
            "error(0) = 1; row(4, 0, 5) = 0; row(4, 0, 6) = 1; letGo(1, 1) = 1; row(4, 0, 6) = 2; letGo(1, 1) = 1; row(4, 0, 5) = 3; "
                + "letGo(1, 1) = 6; letGo(1, 0) = 2",
            "row(4, 0, 0) = 0; row(4, 0, 1) = 1; row(4, 0, 2) = 2; row(4, 0, 3) = 3; row(4, 0, 4) = 4; row(4, 0, 5) = 5; letGo(1, 1) = 7");
        terms.says("A PARTING: all ROWS in FEWEST WHOLE HEAPS.",
            "row(4, 0, 0) = 0; row(4, 0, 1) = 1; row(4, 0, 2) = 2; row(4, 0, 3) = 3; row(4, 0, 4) = 4; fewest() = 2; lets(10, -1) = 17; "
                + "together(1, 3) = 0; together(0, 1) = 2; together(0, 2) = 1; together(1, 2) = 1; together(2, 3) = 1; together(3, 4) = 2; "
                + "together(0, 4) = 0",
            "error(0) = 1; row(4, 0, 3) = 0; row(4, 0, 3) = 1; fewest() = 1; together(0, 1) = 2; row(4, 0, 99) = 2; together(0, 1) = NONE");
        terms.says("TOGETHER are two ROWS: 2 in all PARTINGS, 1 in some, 0 in none.",
            "error(0) = 1; row(4, 0, 3) = 0; gap(1, 1) = 1; together(0, 1) = 2; together(1, 0) = 2; row(4, 0, 5) = 2; together(0, 1) = 1; "
                + "together(2, 1) = 1; together(0, 2) = 0; together(2, 0) = 0; row(4, 0, 5) = 3; together(2, 3) = 2; together(3, 2) = 2; "
                + "together(1, 3) = 1; together(0, 3) = 0",
            "row(4, 0, 0) = 0; row(4, 0, 2) = 1; row(4, 0, 4) = 2; together(0, 1) = 1; together(1, 2) = 1; together(0, 2) = 0; "
                + "row(4, 0, 6) = 3; together(0, 1) = 2; together(2, 3) = 2; together(1, 2) = 0");
    }

    private static void spansAndLines(Sentences terms) {
        terms.says("SPAN of a HEAP for a STATE and a PUSH: the least and greatest a x and b u together (quarters) over LAWS that it lets.",
            "error(0) = 1; row(4, 0, 3) = 0; row(0, 4, -2) = 1; span(1, 10, 2, 0) = 14; span(1, 10, 2, 1) = 46; span(1, -10, 2, 0) = -46; "
                + "span(2, 5, 10, 0) = -60; span(2, 5, 10, 1) = 20; span(3, 10, -7, 0) = 44; span(3, 10, -7, 1) = 44; "
                + "span(0, 99, -99, 0) = -1584; span(0, 99, -99, 1) = 1584; span(0, 0, 0, 0) = 0; span(0, 0, 0, 1) = 0; error(1) = 0; "
                + "span(1, 10, 0, 0) = 20; span(1, 10, 0, 1) = 40");
        terms.says("A LINE is p, q (-3 .. 3 each), r (-99 .. 99): it PARTS two HEAPS, if p x and q u together is r or more for all ROWS of "
                + "the first one, less for all of the second one.",
            "row(0, 0, 0) = 0; row(2, -3, 0) = 1; row(-1, 1, 0) = 2; row(1, -2, 0) = 3; line(3, 12, 0) = 3; line(3, 12, 1) = 2; "
                + "line(3, 12, 2) = 0",
            "row(0, 0, 0) = 0; row(3, -4, 0) = 1; row(-1, 1, 0) = 2; row(2, -3, 0) = 3; line(3, 12, 0) = NONE-1000000",
            "row(0, 0, 0) = 0; row(2, 3, 0) = 1; line(2, 1, 0) = -3; line(2, 1, 1) = 3; line(2, 1, 2) = 1",
            "row(-32, -1, 0) = 0; line(0, 1, 0) = -3; line(0, 1, 1) = -2; line(0, 1, 2) = 99",
            "row(-33, 0, 0) = 0; line(0, 1, 0) = -2; line(0, 1, 1) = -3; line(0, 1, 2) = 67",
            "row(33, 0, 0) = 0; row(34, 0, 0) = 1; line(1, 0, 0) = -3; line(1, 0, 1) = -3; line(1, 0, 2) = -99; line(2, 0, 0) = -2",
            "row(5, 5, 1) = 0; row(5, 5, 2) = 1; line(1, 2, 0) = NONE-1000000; line(2, 1, 2) = NONE-1000000",
            "row(0, 0, 0) = 0; row(-1, 0, 0) = 1; row(1, 0, 0) = 2; line(1, 6, 0) = NONE-1000000; line(6, 1, 0) = NONE-1000000",
            "gap(0, 0) = 0; gap(1, 0) = 1; line(2, 1, 0) = 1; line(2, 1, 1) = -3; line(2, 1, 2) = 1");
        terms.says("The first LINE: the least p, then q, then r.",
            "line(0, 0, 0) = -3; line(0, 0, 1) = -3; line(0, 0, 2) = -99",
            "row(0, 0, 0) = 0; row(1, 1, 0) = 1; line(2, 1, 0) = -2; line(2, 1, 1) = 3; line(2, 1, 2) = 1",
            "row(0, 0, 0) = 0; row(-9, -9, 0) = 1; line(2, 1, 0) = -3; line(2, 1, 1) = -3; line(2, 1, 2) = 1",
            "row(0, 0, 0) = 0; row(0, 1, 0) = 1; line(2, 1, 0) = -3; line(2, 1, 1) = 1; line(2, 1, 2) = 1");
    }

    private static void hoursAndWear(Sentences terms) {
        String gaps = "gap(0, 0); ".repeat(12);
        terms.says("HOURS: the least m (1 .. 6) by which no ROW of the first HEAP has the same rest (its number by m) as one of the second.",
            gaps + "hours(0, 4095) = 1; hours(4095, 0) = 1; hours(1, 2) = 2; hours(1365, 2730) = 2; hours(585, 3510) = 3; "
                + "hours(2048, 32) = 4; hours(1, 528) = 5; hours(1, 560) = 6; hours(1, 112) = NONE; hours(112, 1) = NONE; "
                + "hours(1, 1) = NONE; hours(1, 2048) = 2; hours(3, 12) = 4; hours(2, 4) = 2; hours(1, 4) = 3; hours(1, 64) = 4");
        terms.says("WEAR of a LAW by steps (-1 .. 1 to a, to b, not both 0): the least ROW s (0 .. how many ROWS there are) so that all "
                + "ROWS ahead of s MEET the LAW, and all from s on the LAW with steps added (such as there is).",
            "wear(144, 1, 1) = 0; wear(144, -1, 0) = 0; wear(144, 0, -1) = 0; wear(144, 0, 0) = BAD; wear(144, 2, 0) = BAD; "
                + "wear(144, -2, 0) = BAD; wear(144, 1, 2) = BAD; wear(144, 1, -2) = BAD; wear([8 0], 1, 0) = NOT; "
                + "wear([-8 0], -1, 0) = NOT; wear([0 8], 0, 1) = NOT; wear([0 -8], 1, -1) = NOT; wear([0 8], 1, 1) = NOT; "
                + "wear([7 0], 1, 0) = 0; wear([0 7], 0, 1) = 0",
            "error(0) = 1; row(4, 0, 3) = 0; row(4, 0, 3) = 1; wear([3 0], 1, 0) = 2; wear([3 0], 0, 1) = 0; wear([2 0], 1, 0) = 0; "
                + "wear([2 0], 1, 1) = 0; gap(4, 0) = 2; row(4, 0, 4) = 3; wear([3 0], 1, 0) = 2; wear([3 0], 1, -1) = 2; "
                + "wear([3 0], -1, 0) = NONE; wear([4 0], -1, 0) = NONE; row(4, 0, 5) = 4; wear([3 0], 1, 0) = NONE; row(4, 0, 3) = 5; "
                + "wear([3 0], 1, 0) = NONE; error(20) = 0; wear([3 0], 1, 0) = 0",
            "error(0) = 1; row(0, 4, 5) = 0; row(4, 4, 9) = 1; wear([4 6], 0, -1) = 0; wear([2 5], 1, 1) = 1; wear([3 4], 0, 1) = NONE; "
                + "wear([4 5], 1, 1) = 2",
            "error(0) = 1; " + "row(4, 0, 3); ".repeat(12) + "wear([3 0], 1, 0) = 12; wear([2 0], 1, 0) = 0");
    }

    private static void tries(Sentences terms) {
        terms.says("TRY at a STATE for a HEAP: for a PUSH (-9 .. 9) LAWS that the HEAP lets are sorted by what END would come: LEFT at "
                + "worst: the most LAWS, over all ENDS y (any whole number), that a ROW of that STATE, PUSH and END MEETS.",
            "error(0) = 1; row(4, 0, 3) = 0; tries(1, 4, 0) = 17; tries(1, 1, 0) = 0; tries(1, 4, 1) = 1; tries(1, 4, -9) = 1; "
                + "tries(1, 0, 0) = 17; tries(0, 0, 0) = 289; tries(0, 0, 1) = 17; tries(0, 4, 4) = 17; tries(0, 0, 10) = BAD; "
                + "tries(0, 0, -10) = BAD; tries(0, 100, 0) = BAD; error(1) = 0; tries(1, 0, 0) = 51; tries(1, 0, 4) = 9; "
                + "tries(1, 0, 9) = 3; tries(1, 0, -9) = 3",
            "error(0) = 1; row(4, 0, 8) = 0; row(0, 4, 8) = 1; tries(3, 98, 4) = 1; tries(3, -98, -4) = 1; tries(3, 99, 9) = 1; "
                + "tries(3, -99, -9) = 1; tries(3, 1, 0) = 1; tries(3, 0, 1) = 1; row(4, 0, 7) = 2; tries(6, 1, 0) = 0; "
                + "tries(6, 99, 0) = 0; tries(5, 0, 0) = NONE",
            "error(20) = 1; tries(0, 0, 0) = 289; tries(0, 1, 0) = 289; tries(0, 10, 0) = 289; tries(0, 99, 0) = 34");
        terms.says("THE BEST PUSH has the fewest LEFT at worst, of like ones the least size, of these the one above 0 first.",
            "error(0) = 1; row(4, 0, 3) = 0; row(0, 4, -2) = 1; best(1, 1) = 0; best(1, 4) = 1; best(3, 4) = 1; best(3, 1) = 0; "
                + "error(1) = 0; best(1, 0) = 9; error(20) = 1; best(3, 0) = 0",
            "error(0) = 1; row(4, 4, 0) = 0; tries(1, 4, 4) = 17; tries(1, 4, 0) = 1; tries(1, 4, 1) = 1; best(1, 4) = 0",
            "row(99, 99, 0) = 0; lets(1, -1) = 17; tries(1, 4, 0) = 3; tries(1, 4, 1) = 3; tries(1, 4, -1) = 2; tries(1, 4, 9) = 2; "
                + "tries(1, 4, -5) = 1; tries(1, 4, -6) = 1; best(1, 4) = -5; best(1, -4) = 5; best(1, 0) = 9");
        terms.says("TOLD APART are two LAWS at a STATE by a PUSH, if no END, any whole number, MEETS both;",
            "error(0) = 1; apart([1 0], [2 0], 4) = 0; apart([1 0], [1 0], 1) = 0; apart([4 4], [4 4], 1) = NONE-1000000; error(1) = 0; "
                + "apart([1 0], [-6 0], 1) = 0; apart([4 0], [-4 0], 1) = NONE-1000000; apart([4 0], [-5 0], 1) = 0; "
                + "apart([0 4], [0 0], 0) = 3; error(20) = 1; apart([8 8], [8 7], 99) = NONE-1000000; apart([8 8], [-8 7], 99) = 0; "
                + "apart([8 0], [-8 0], 10) = NONE-1000000; apart([8 0], [-8 0], 11) = 0");
        terms.says("the PUSH of least size that does so, of like ones the one above 0.",
            "error(0) = 1; apart([0 4], [0 0], 0) = 1; apart([0 0], [0 4], 0) = 1; error(1) = 0; apart([4 -4], [-4 4], 1) = -1; "
                + "apart([2 -2], [-2 2], 1) = -2; error(4) = 1; apart([0 4], [0 0], 0) = 9; apart([0 0], [-6 3], 1) = -9; error(5) = 4; "
                + "apart([0 4], [0 0], 0) = NONE-1000000");
    }

    private static void boxes(Sentences terms) {
        terms.says("KNOWN LAWS 0 .. 3, as they come (of the WATCH, boxes).",
            "error(0) = 1; know([8 0]) = 0; know([4 0]) = 1; know([0 4]) = 2; know([-8 0]) = 3; know([0 0]) = FULL; count(2) = 4; "
                + "watch(4, 0, 8) = 1; watch(4, 0, 4) = 18; watch(4, 0, 0) = 20; watch(4, 0, -8) = 24; box(1, 2) = 1; step(9) = 1; "
                + "holds(0) = -4; holds(1) = 9");
        terms.says("A BOX is a span of STATES (-9999 .. 9999).",
            "box(-9999, 9999) = 1; holds(0) = -9999; holds(1) = 9999; box(-10000, 0) = BAD; box(0, 10000) = BAD; box(10000, 10000) = BAD; "
                + "box(-10000, -10000) = BAD; box(5, 5) = 1; holds(0) = 5; holds(1) = 5; box(6, 5) = BAD; holds(0) = 5");
        terms.says("A STEP by a PUSH: of all KNOWN LAWS, both ends: the least of a x and b u together less 4 ERROR, by 4, to the lower "
                + "whole one, to the greatest of these sums and 4 ERROR, by 4, to the higher whole one; held to -9999 .. 9999.",
            "know([3 2]) = 0; error(0) = 1; box(1, 2) = 1; step(0) = 1; holds(0) = 0; holds(1) = 2; box(-2, -1) = 1; step(0) = 1; "
                + "holds(0) = -2; holds(1) = 0; box(-4, 8) = 1; step(2) = 1; holds(0) = -2; holds(1) = 7; error(3) = 0; box(-4, 8) = 1; "
                + "step(2) = 1; holds(0) = -5; holds(1) = 10; know([-4 0]) = 1; error(1) = 3; box(-4, 8) = 1; step(2) = 1; holds(0) = -9; "
                + "holds(1) = 8; know([0 8]) = 2; error(0) = 1; box(0, 0) = 1; step(99) = 1; holds(0) = 0; holds(1) = 198; box(0, 0) = 1; "
                + "step(-99) = 1; holds(0) = -198; holds(1) = 0; watch(4, 0, 3) = 1; box(-4, 8) = 1; step(2) = 1; holds(0) = -8; "
                + "holds(1) = 7",
            "know([8 8]) = 0; error(20) = 1; box(9999, 9999) = 1; step(99) = 1; holds(0) = 9999; holds(1) = 9999; box(-9999, -9999) = 1; "
                + "step(-99) = 1; holds(0) = -9999; holds(1) = -9999; box(4980, 4990) = 1; step(0) = 1; holds(0) = 9940; holds(1) = 9999; "
                + "box(-4990, -4980) = 1; step(0) = 1; holds(0) = -9999; holds(1) = -9940");
        terms.says("BRAKE: a PUSH from the next STEP on for n STEPS: the first STEP (1 .. n) behind which the BOX is not within told bounds.",
            "know([4 4]) = 0; error(0) = 1; box(10, 12) = 1; brake(1, 40, 0, 12) = 1; brake(1, 40, 0, 13) = 2; brake(1, 40, 0, 51) = 40; "
                + "brake(1, 40, 0, 52) = NONE; brake(1, 39, 0, 51) = NONE; brake(-3, 1, 7, 9) = NONE; brake(-3, 5, 2, 99) = 3; "
                + "brake(0, 40, 10, 12) = NONE; brake(0, 40, 11, 12) = 1; brake(0, 40, 10, 11) = 1; error(1) = 0; brake(0, 40, 5, 99) = 6");
    }

    private static void watch(Sentences terms) {
        terms.says("The WATCH: at first all KNOWN LAWS may be; each WATCHED ROW (x, u, y) leaves those that it MEETS;",
            "error(0) = 1; know([4 0]) = 0; know([4 4]) = 1; know([8 4]) = 2; watch(0, 0, 0) = 7; watch(5, 0, 5) = 3; watch(5, 1, 6) = 2; "
                + "watch(0, 0, 0) = 2; error(20) = 0; watch(5, 0, 5) = 2; know(0) = 3; watch(0, 0, 0) = 15",
            "know([4 0]) = 0; know([5 0]) = 1; watch(1, 0, 0) = 1; watch(1, 0, 1) = 1",
            "error(0) = 1; know(144) = 0; watch(100, 0, 0) = BAD; watch(-99, 99, 0) = 1; watch(99, -99, 0) = 1; count(3) = 2; count(0) = 0");
        terms.says("if it leaves none: it RINGS, and all KNOWN LAWS that the ROW MEETS may be then (all of them, if there is none).",
            "error(0) = 1; know([4 0]) = 0; know([0 4]) = 1; know([4 4]) = 2; watch(2, 1, 2) = 1; watch(0, 1, 1) = 22; watch(1, 0, 1) = 4; "
                + "watch(1, 1, 9) = 23; watch(1, 1, 9) = 23; watch(2, 1, 1) = 2; count(3) = 6; count(4) = 3");
    }
}
