import java.util.List;
import java.util.function.Supplier;

/** Edges of promises 1 to 12, a method for each sentence of the document that names one. */
public final class RowsEdgesTest {
    private static final int BAD = TwoLaws.BAD, NOT = TwoLaws.NOT, FULL = TwoLaws.FULL, NONE = TwoLaws.NONE;
    private static final int NULL = TwoLaws.NULL, CAST = TwoLaws.CAST, INDEX = TwoLaws.INDEX;
    private static final List<Supplier<TwoLaws>> FRESH_AND_LIVED = List.of(Works::fresh, Works::lived);
    private static final String TWELVE = "x1u1y1;".repeat(11) + "x1u1y1";

    public static void main(String[] args) {
        newObjectHasNoRows();
        newObjectKnowsNothing();
        rowNumbers();
        rowBounds();
        rowFull();
        gapBounds();
        gapFull();
        rowsBounds();
        rowsNone();
        rowsNull();
        rowsCast();
        rowsIndex();
        rowsNot();
        rowsFull();
        rowsOrder();
        typeBounds();
        typeBytes();
        typeFull();
        typeOrder();
        textCounts();
        textNumbers();
        textNumbersBeyond();
        textEnds();
        textBlanks();
        textSigns();
        textThirteenth();
        toldBounds();
        toldGap();
        clearEmptyAndFull();
        clearThenAsManyRows();
        errorBounds();
        errorOfRowsThatAreThere();
        meetsBounds();
        meetsAtTheError();
        meetsLawsAtTheEnds();
        meetsGap();
        letsBounds();
        letsNone();
        countBounds();
        countEmptyAndFull();
        Due.end();
    }

    /** Promise 1: "No ROWS ...; the BOX is 0 to 0." */
    private static void newObjectHasNoRows() {
        TwoLaws t = Works.fresh();
        Due.be("1: no row is told", Edges.BAD_BELOW, t.told(0, 0));
        Due.be("1: no row meets", BAD, t.meets(0, 0));
        Due.be("1: no row is together with one", BAD, t.together(0, 1));
        Due.be("1: no heap of a row", BAD, t.lets(1, -1));
        Due.be("1: no row goes", 0, t.clear());
        Due.be("1: no row is let go", 0, t.letGo(0, 0));
        Due.be("1: the box from 0", 0, t.holds(0));
        Due.be("1: the box to 0", 0, t.holds(1));
    }

    /** Promise 1: "no KNOWN LAWS"; SHEETS "hold nothing (at first)"; the ERROR is "1 at first". */
    private static void newObjectKnowsNothing() {
        TwoLaws t = Works.fresh();
        Due.be("1: no step", NONE, t.step(0));
        Due.be("1: no brake", NOT, t.brake(0, 1, 0, 0));
        Due.be("1: no watch", NOT, t.watch(0, 0, 0));
        for (int s = 0; s < 4; s++) {
            Due.be("1: sheet " + s + " holds nothing", NULL, t.drop(s));
        }
        Due.be("1: the tape is empty", 1, t.type('x', 1));
        Due.be("1: the error is 1", 1, t.error(0));
    }

    /** Terms: "ROWS 0 .. 11, as they come". */
    private static void rowNumbers() {
        TwoLaws t = Works.fresh();
        for (int k = 0; k < 12; k++) {
            Due.be("2: row " + k, k, k % 3 == 1 ? t.gap(k, -k) : t.row(k, -k, 2 * k));
        }
        for (int k = 0; k < 12; k++) {
            Due.be("2: x of row " + k, k, t.told(k, 0));
            Due.be("2: u of row " + k, -k, t.told(k, 1));
            Due.be("2: y of row " + k, k % 3 == 1 ? Edges.NONE_BELOW : 2 * k, t.told(k, 2));
        }
    }

    /** Promise 2: "BAD" of x, u, y (-99 .. 99 each). */
    private static void rowBounds() {
        for (Supplier<TwoLaws> made : FRESH_AND_LIVED) {
            Edges.between("2: x", -99, 99, BAD, made, (t, v) -> t.row(v, 1, 2));
            Edges.between("2: u", -99, 99, BAD, made, (t, v) -> t.row(1, v, 2));
            Edges.between("2: y", -99, 99, BAD, made, (t, v) -> t.row(1, 2, v));
        }
        for (int far : new int[] {-99, 99}) {
            TwoLaws t = Works.fresh();
            Due.be("2: all of " + far, 0, t.row(far, far, far));
            for (int what = 0; what <= 2; what++) {
                Due.be("2: told " + what + " of " + far, far, t.told(0, what));
            }
        }
    }

    /** Promise 2: "FULL: 12"; BAD is named first. */
    private static void rowFull() {
        Edges.taken("2: the twelfth", 11, () -> withRows(11), t -> t.row(1, 2, 3));
        Edges.refused("2: the thirteenth", FULL, Works::full, t -> t.row(1, 2, 3));
        Edges.refusedOutside("2: BAD before FULL, x", -99, 99, BAD, Works::full, (t, v) -> t.row(v, 0, 0));
        Edges.refusedOutside("2: BAD before FULL, u", -99, 99, BAD, Works::full, (t, v) -> t.row(0, v, 0));
        Edges.refusedOutside("2: BAD before FULL, y", -99, 99, BAD, Works::full, (t, v) -> t.row(0, 0, v));
    }

    /** Promise 3: "BAD" of x, u (-99 .. 99 each). */
    private static void gapBounds() {
        for (Supplier<TwoLaws> made : FRESH_AND_LIVED) {
            Edges.between("3: x", -99, 99, BAD, made, (t, v) -> t.gap(v, 1));
            Edges.between("3: u", -99, 99, BAD, made, (t, v) -> t.gap(1, v));
        }
        TwoLaws t = Works.fresh();
        Due.be("3: at both ends", 0, t.gap(-99, 99));
        Due.be("3: x", -99, t.told(0, 0));
        Due.be("3: u", 99, t.told(0, 1));
    }

    /** Promise 3: "FULL"; BAD is named first. */
    private static void gapFull() {
        Edges.taken("3: the twelfth", 11, () -> withRows(11), t -> t.gap(1, 2));
        Edges.refused("3: the thirteenth", FULL, Works::full, t -> t.gap(1, 2));
        Edges.refusedOutside("3: BAD before FULL, x", -99, 99, BAD, Works::full, (t, v) -> t.gap(v, 0));
        Edges.refusedOutside("3: BAD before FULL, u", -99, 99, BAD, Works::full, (t, v) -> t.gap(0, v));
    }

    private static TwoLaws withRows(int n) {
        TwoLaws t = Works.livedWithoutTape();
        t.clear();
        for (int k = 0; k < n; k++) {
            t.row(k, k, k);
        }
        return t;
    }

    /** Promise 4: "BAD" of the SHEET (0 .. 3), the LANE (0 .. 2), n (0 .. 12). */
    private static void rowsBounds() {
        Edges.between("4: the sheet", 0, 3, BAD, Works::lived, (t, v) -> t.rows(v, 0, 0, 1));
        Edges.between("4: the lane", 0, 2, BAD, Works::lived, (t, v) -> t.rows(0, v, 0, 1));
        Edges.between("4: n", 0, 12, BAD, Works::lived, (t, v) -> t.rows(2, 2, 0, v));
        TwoLaws t = Works.lived();
        t.clear();
        Due.be("4: twelve", 12, t.rows(2, 2, 0, 12));
        Due.be("4: twelve are there", 12, t.count(0));
        Due.be("4: the first x", 10, t.told(0, 0));
        Due.be("4: the eleventh x", 15, t.told(10, 0));
        Due.be("4: no gap is among them", 0, t.count(1));
    }

    /** Promise 4: "n ROWS (0 .. 12)": none of them, also where all are there, also of an empty row. */
    private static void rowsNone() {
        Edges.changesNothing("4: none of some", 0, Works::lived, t -> t.rows(0, 0, 0, 0));
        Edges.changesNothing("4: none at the end", 0, Works::lived, t -> t.rows(0, 0, 9, 0));
        Edges.changesNothing("4: none has room", 0, Works::full, t -> t.rows(2, 2, 0, 0));
        TwoLaws t = Works.fresh();
        t.sheet(1, 1, 0);
        Due.be("4: none of an empty row", 0, t.rows(1, 1, 0, 0));
        Due.be("4: one of an empty row", INDEX, t.rows(1, 1, 0, 1));
    }

    /** Promise 4: "NULL": the SHEET holds nothing. */
    private static void rowsNull() {
        for (int lane = 0; lane < 3; lane++) {
            int as = lane;
            Edges.refused("4: NULL as lane " + lane, NULL, Works::lived, t -> t.rows(3, as, 0, 1));
            Edges.refused("4: NULL, none wanted", NULL, Works::lived, t -> t.rows(3, as, 0, 0));
        }
    }

    /** Promise 4: "CAST": taken as a row of a LANE that it is not. */
    private static void rowsCast() {
        for (int k = 0; k < 9; k++) {
            int sheet = k / 3;
            int lane = k % 3;
            int want = sheet == lane ? 1 : CAST;
            Due.be("4: sheet " + sheet + " as lane " + lane, want, Works.lived().rows(sheet, lane, 0, 1));
            if (want == CAST) {
                Edges.refused("4: CAST of " + sheet + " as " + lane, CAST, Works::lived, t -> t.rows(sheet, lane, 0, 1));
                Edges.refused("4: CAST, none wanted", CAST, Works::lived, t -> t.rows(sheet, lane, 0, 0));
            }
        }
    }

    /** Promise 4: "INDEX": items from i on are not all there. */
    private static void rowsIndex() {
        Edges.taken("4: the last three items", 1, Works::lived, t -> t.rows(0, 0, 6, 1));
        Edges.taken("4: all items", 3, Works::lived, t -> t.rows(0, 0, 0, 3));
        for (int i : new int[] {-1, 7, 8, 9, 10, Edges.LEAST, Edges.MOST, Edges.MOST - 2}) {
            Edges.refused("4: one row from " + i, INDEX, Works::lived, t -> t.rows(0, 0, i, 1));
        }
        Edges.refused("4: three rows from 1", INDEX, Works::lived, t -> t.rows(0, 0, 1, 3));
        Edges.refused("4: four rows", INDEX, Works::lived, t -> t.rows(0, 0, 0, 4));
        Edges.refused("4: twelve rows from 1", INDEX, Works::lived, t -> t.rows(2, 2, 1, 12));
        Edges.refused("4: i wraps around", INDEX, Works::lived, t -> t.rows(2, 2, Edges.MOST - 35, 12));
        Edges.refused("4: none from below 0", INDEX, Works::lived, t -> t.rows(0, 0, -1, 0));
    }

    private static TwoLaws withItem(int lane, int i, int v) {
        TwoLaws t = Works.livedWithoutTape();
        t.sheet(3, lane, 9);
        t.item(3, lane, i, v);
        return t;
    }

    /** Promise 4: "NOT: one is not -99 .. 99", of each lane, at each place. */
    private static void rowsNot() {
        for (int k = 0; k < 18; k++) {
            int lane = k / 6;
            int i = 3 + k % 6;
            for (int v : new int[] {-99, 99}) {
                Edges.taken("4: item " + i + " is " + v, 2, () -> withItem(lane, i, v), t -> t.rows(3, lane, 3, 2));
            }
            for (int v : new int[] {-100, 100}) {
                Edges.refused("4: item " + i + " is " + v, NOT, () -> withItem(lane, i, v), t -> t.rows(3, lane, 3, 2));
            }
        }
        for (int v : new int[] {Edges.LEAST, Edges.MOST, 65536, 256}) {
            Edges.refused("4: an int is " + v, NOT, () -> withItem(2, 4, v), t -> t.rows(3, 2, 3, 2));
        }
        Edges.taken("4: an item ahead is not looked at", 1, () -> withItem(2, 2, 100), t -> t.rows(3, 2, 3, 1));
        Edges.taken("4: an item behind is not looked at", 1, () -> withItem(2, 6, 100), t -> t.rows(3, 2, 3, 1));
    }

    /** Promise 4: "FULL: not all have room". */
    private static void rowsFull() {
        Edges.taken("4: seven have room beside five", 7, Works::lived, t -> t.rows(2, 2, 0, 7));
        Edges.refused("4: eight have no room", FULL, Works::lived, t -> t.rows(2, 2, 0, 8));
        Edges.refused("4: twelve have no room", FULL, Works::lived, t -> t.rows(2, 2, 0, 12));
        Edges.refused("4: one has no room", FULL, Works::full, t -> t.rows(2, 2, 0, 1));
    }

    /** Terms: "of several the first that a call names": BAD; NULL; CAST; INDEX; NOT; FULL. */
    private static void rowsOrder() {
        Edges.refused("4: BAD n before NULL", BAD, Works::lived, t -> t.rows(3, 0, 0, 13));
        Edges.refused("4: BAD lane before NULL", BAD, Works::lived, t -> t.rows(3, 3, 0, 1));
        Edges.refused("4: BAD n before CAST", BAD, Works::lived, t -> t.rows(0, 1, 0, -1));
        Edges.refused("4: BAD n before INDEX", BAD, Works::lived, t -> t.rows(0, 0, -1, 13));
        Edges.refused("4: BAD n before FULL", BAD, Works::full, t -> t.rows(0, 0, 0, 13));
        Edges.refused("4: NULL before INDEX", NULL, Works::lived, t -> t.rows(3, 0, -1, 1));
        Edges.refused("4: NULL before FULL", NULL, Works::lived, t -> t.rows(3, 0, 0, 12));
        Edges.refused("4: CAST before INDEX", CAST, Works::lived, t -> t.rows(0, 1, 37, 1));
        Edges.refused("4: CAST before NOT", CAST, () -> withItem(1, 0, 100), t -> t.rows(3, 0, 0, 1));
        Edges.refused("4: CAST before FULL", CAST, Works::full, t -> t.rows(0, 1, 0, 1));
        Edges.refused("4: INDEX before NOT", INDEX, () -> withItem(1, 7, 100), t -> t.rows(3, 1, 7, 1));
        Edges.refused("4: INDEX before FULL", INDEX, Works::full, t -> t.rows(0, 0, 34, 1));
        Edges.refused("4: NOT before FULL", NOT, () -> fullWithItem(100), t -> t.rows(0, 0, 0, 1));
    }

    private static TwoLaws fullWithItem(int v) {
        TwoLaws t = Works.full();
        t.item(0, 0, 1, v);
        return t;
    }

    /** Promise 5: "The n lowest bytes (1 .. 8)"; "BAD: n". */
    private static void typeBounds() {
        long eight = Due.bytes("x1u2y345");
        Edges.taken("5: one byte", 8, Works::lived, t -> t.type(eight, 1));
        Edges.taken("5: eight bytes", 15, Works::lived, t -> t.type(eight, 8));
        Edges.between("5: n", 1, 8, BAD, Works::lived, (t, v) -> t.type(eight, v));
        Edges.between("5: n of a fresh one", 1, 8, BAD, Works::fresh, (t, v) -> t.type(eight, v));
        TwoLaws t = Works.fresh();
        t.type(eight, 8);
        Due.be("5: the highest first, a number beyond", -25, t.text());
        t.type(eight >> 8, 7);
        Due.be("5: the n lowest alone", 1, t.text());
        Due.be("5: as they stand", 34, t.told(0, 2));
    }

    /** Promise 5: "BAD: a byte not 32 .. 126", at each place of the n lowest, and at none above. */
    private static void typeBytes() {
        long blanks = Due.bytes("        ");
        for (int n = 1; n <= 8; n++) {
            for (int place = 0; place < 8; place++) {
                for (int b : new int[] {0, 31, 32, 126, 127, 128, 255}) {
                    long w = blanks & ~(255L << 8 * place) | (long) b << 8 * place;
                    int many = n;
                    boolean good = place >= n || b >= 32 && b <= 126;
                    Due.be("5: byte " + b + " at " + place + " of " + n, good ? 7 + n : BAD, Works.lived().type(w, n));
                    if (!good && n % 7 == 1) {
                        Edges.refused("5: byte " + b, BAD, Works::lived, t -> t.type(w, many));
                    }
                }
            }
        }
    }

    private static TwoLaws withTape(int n) {
        TwoLaws t = Works.livedWithoutTape();
        Due.typed(t, "x1u2y3" + " ".repeat(n - 6));
        return t;
    }

    /** Promise 5: "FULL: 120". */
    private static void typeFull() {
        long blanks = Due.bytes("        ");
        for (int n = 1; n <= 8; n++) {
            int many = n;
            Edges.taken("5: up to 120 by " + n, 120, () -> withTape(120 - many), t -> t.type(blanks, many));
            Edges.refused("5: 121 by " + n, FULL, () -> withTape(121 - many), t -> t.type(blanks, many));
        }
        Edges.refused("5: none behind 120", FULL, Works::full, t -> t.type(blanks, 1));
        Edges.refused("5: eight behind 120", FULL, Works::full, t -> t.type(blanks, 8));
        TwoLaws t = Works.full();
        t.clear();
        Due.be("5: 120 bytes are all read", 12, t.text());
        Due.be("5: then it is empty", 1, t.type(32, 1));
        t = withTape(119);
        t.type('z', 1);
        Due.be("5: the last of 120", -20 - 119, t.text());
    }

    /** Terms: "of several the first": BAD before FULL. */
    private static void typeOrder() {
        Edges.refused("5: BAD n before FULL", BAD, Works::full, t -> t.type(32, 9));
        Edges.refused("5: BAD n before FULL, 0", BAD, Works::full, t -> t.type(32, 0));
        Edges.refused("5: a BAD byte before FULL", BAD, Works::full, t -> t.type(31, 1));
    }

    /** The fault of a text, behind which the tape is empty and all else as it was. */
    private static void fault(String why, String text, int want) {
        TwoLaws touched = Works.livedWithoutTape();
        Due.typed(touched, text);
        Due.be("6: " + why + ", '" + text + "'", want, touched.text());
        Edges.sameTrace("6: " + why + ", '" + text + "'", Works.livedWithoutTape(), touched);
    }

    private static void reads(String why, String text, int... numbers) {
        TwoLaws t = Works.fresh();
        Due.typed(t, text);
        Due.be("6: " + why + ", '" + text + "'", numbers.length / 3, t.text());
        for (int k = 0; k < numbers.length; k++) {
            Due.be("6: " + why + ", '" + text + "' told " + k, numbers[k], t.told(k / 3, k % 3));
        }
        Due.be("6: the tape is empty then", 1, t.type(32, 1));
    }

    /** A text behind a text: what the first had is not in the second. */
    private static void twoTexts(String first, String second, int... numbers) {
        TwoLaws t = Works.fresh();
        Due.typed(t, first);
        Due.be("6: the first, '" + first + "'", 1, t.text());
        Due.typed(t, second);
        Due.be("6: the second, '" + second + "'", 1, t.text());
        for (int k = 0; k < numbers.length; k++) {
            Due.be("6: '" + first + "' and '" + second + "' told " + k, numbers[k], t.told(k / 3, k % 3));
        }
    }

    /** Terms: "1 to 12 ROWS with ; between". */
    private static void textCounts() {
        fault("no row, no byte", "", -20);
        fault("no row, blanks", "    ", -24);
        reads("one row", "x1u2y3", 1, 2, 3);
        reads("two rows", "x1u2y3;x4u5y6", 1, 2, 3, 4, 5, 6);
        fault("no row behind ;", "x1u2y3;", -27);
        fault("no row ahead of ;", ";x1u2y3", -20);
        fault("no row between", "x1u2y3;;x1u2y3", -27);
        fault("no ; between", "x1u2y3x1u2y3", -26);
        TwoLaws t = Works.fresh();
        Due.typed(t, TWELVE);
        Due.be("6: twelve rows", 12, t.text());
        Due.be("6: twelve are there", 12, t.count(0));
    }

    /** Terms: "a number is perhaps - and 0 .. 99". */
    private static void textNumbers() {
        reads("0 and 99", "x0u99y0", 0, 99, 0);
        reads("-0 and -99", "x-0u-99y-0", 0, -99, 0);
        reads("9 and 10", "x9u10y-9", 9, 10, -9);
        fault("no number, x", "xu1y1", -21);
        fault("no number, u", "x1uy1", -23);
        fault("no number, y", "x1u1y", -25);
        fault("no number but -", "x-u1y1", -22);
        fault("two -", "x1u--1y1", -24);
        fault("a +", "x+1u1y1", -21);
        fault("- behind the number", "x1-u1y1", -22);
        fault("no whole number", "x1.5u1y1", -22);
        fault("byte 47", "x/u1y1", -21);
        fault("byte 58", "x:u1y1", -21);
        fault("byte 58 behind a digit", "x1:u1y1", -22);
        fault("byte 47 behind a digit", "x1/u1y1", -22);
    }

    /** Terms: "of a number beyond its first byte (its -, if it has one)". */
    private static void textNumbersBeyond() {
        fault("x is 100", "x100u1y1", -21);
        fault("x is -100", "x-100u1y1", -21);
        fault("u is 100", "x1u100y1", -23);
        fault("u is -100", "x1u-100y1", -23);
        fault("y is 100", "x1u1y100", -25);
        fault("y is -100", "x1u1y-100", -25);
        fault("behind blanks", "x  100u1y1", -23);
        fault("- apart from its digits", "x  -  100u1y1", -23);
        fault("of many digits", "x" + "9".repeat(119), -21);
        fault("that wraps around to 1", "x4294967297u1y1", -21);
        fault("that wraps around to 0", "x18446744073709551616u1y1", -21);
        fault("of the second row", "x1u1y1;x1u1y100", -32);
        fault("ahead of a later fault", "x100z", -21);
        fault("behind an earlier fault", "z100", -20);
    }

    /** Terms: "the end: how many bytes there are". */
    private static void textEnds() {
        String whole = "x-1u-2y-3";
        int[] ends = {0, 1, 2, 4, 5, 7, 8};
        for (int end : ends) {
            fault("the end", whole.substring(0, end), -20 - end);
            fault("the end behind blanks", whole.substring(0, end) + "   ", -23 - end);
        }
        fault("the end behind ;", whole + ";", -30);
        fault("the end behind ; and blanks", whole + " ; ", -32);
        fault("the end of 120 bytes", " ".repeat(120), -140);
    }

    /** Terms: "bytes 32 count for nothing, but do not stand between two digits of a number". */
    private static void textBlanks() {
        reads("blanks all over", "  x  -  12  u  7  y  -  3  ;  x  1  u  2  y  ?  ", -12, 7, -3, 1, 2, Edges.NONE_BELOW);
        fault("in x's number", "x1 2u1y1", -23);
        fault("in u's number", "x1u1  2y1", -26);
        fault("in y's number", "x1u1y1 2", -27);
        fault("in the last row's number", "x1u1y1;x1u1y-1 2", -35);
        fault("in a number that were beyond", "x1 00u1y1", -23);
        fault("a fault behind blanks", "x1   z", -25);
        fault("a fault behind blanks ahead", "   z", -23);
    }

    /** Terms: "x and a number, u and a number, y and a number or a ? (a GAP), in this order". */
    private static void textSigns() {
        reads("a gap", "x1u2y?", 1, 2, Edges.NONE_BELOW);
        reads("a gap, then none", "x1u2y?;x3u4y5", 1, 2, Edges.NONE_BELOW, 3, 4, 5);
        twoTexts("x1u2y?", "x3u4y5", 1, 2, Edges.NONE_BELOW, 3, 4, 5);
        twoTexts("x1u2y3", "x4u5y?", 1, 2, 3, 4, 5, Edges.NONE_BELOW);
        fault("? of x", "x?u1y1", -21);
        fault("? of u", "x1u?y1", -23);
        fault("? behind -", "x1u1y-?", -26);
        fault("? behind a number", "x1u1y1?", -26);
        fault("two ?", "x1u1y??", -26);
        fault("a number behind ?", "x1u1y?1", -26);
        fault("u first", "u1x1y1", -20);
        fault("y before u", "x1y1u1", -22);
        fault("no u", "x1", -22);
        fault("no y", "x1u1;", -24);
        fault("X", "X1u1y1", -20);
        fault("U", "x1U1y1", -22);
        fault("Y", "x1u1Y1", -24);
        fault("a comma", "x1u1y1,x1u1y1", -26);
        fault("the last byte of all", "x1u1y1~", -26);
    }

    private static void faultWith(int rows, String text, int want) {
        TwoLaws touched = withRows(rows);
        Due.typed(touched, text);
        Due.be("6: a thirteenth, " + rows + " and '" + text + "'", want, touched.text());
        Edges.sameTrace("6: a thirteenth, " + rows + " and '" + text + "'", withRows(rows), touched);
    }

    /** Terms: "of a thirteenth ROW (with those that there are) its x". */
    private static void textThirteenth() {
        faultWith(0, TWELVE + ";x1u1y1", -20 - 84);
        faultWith(0, TWELVE + " ; x1u1y1", -20 - 86);
        faultWith(1, TWELVE, -20 - 77);
        faultWith(11, "x1u1y1;x1u1y1", -27);
        faultWith(12, "x1u1y1", -20);
        faultWith(12, "  x1u1y1", -22);
        faultWith(12, "x", -20);
        faultWith(12, "", -20);
        faultWith(12, "  ", -22);
        faultWith(12, "z", -20);
        faultWith(11, "x1u1y1;", -27);
        faultWith(11, "x1u1y1;x100", -27);
        faultWith(11, "x1u1y100;x1", -25);
        TwoLaws t = withRows(11);
        Due.typed(t, "x1u2y3");
        Due.be("6: a twelfth", 1, t.text());
        Due.be("6: behind those that there are", 3, t.told(11, 2));
    }

    /** Promise 7: "x (0), u (1), y (2) of a ROW. BAD less 1000000". */
    private static void toldBounds() {
        Edges.between("7: the row", 0, 4, Edges.BAD_BELOW, Works::lived, (t, v) -> t.told(v, 0));
        Edges.between("7: the row of a full one", 0, 11, Edges.BAD_BELOW, Works::full, (t, v) -> t.told(v, 0));
        Edges.between("7: what", 0, 2, Edges.BAD_BELOW, Works::lived, (t, v) -> t.told(0, v));
        Edges.refusedOutside("7: what of a gap", 0, 2, Edges.BAD_BELOW, Works::lived, (t, v) -> t.told(2, v));
        Edges.refused("7: a row that went", Edges.BAD_BELOW, () -> withRows(0), t -> t.told(0, 0));
    }

    /** Promise 7: "NONE less that: y of a GAP"; its x and u are told. */
    private static void toldGap() {
        Edges.refused("7: y of a gap", Edges.NONE_BELOW, Works::lived, t -> t.told(2, 2));
        Edges.refused("7: y of the last gap", Edges.NONE_BELOW, Works::full, t -> t.told(11, 2));
        Edges.taken("7: x of a gap", 7, Works::lived, t -> t.told(2, 0));
        Edges.taken("7: u of a gap", -7, Works::lived, t -> t.told(2, 1));
        TwoLaws t = Works.full();
        t.clear();
        Due.be("7: where a gap was", 0, t.row(1, 2, 3));
        for (int k = 1; k < 12; k++) {
            t.row(k, k, -k);
        }
        Due.be("7: a row stands now", -11, t.told(11, 2));
    }

    /** Promise 8: "All ROWS go: how many." */
    private static void clearEmptyAndFull() {
        Edges.changesNothing("8: none", 0, Works::fresh, TwoLaws::clear);
        Edges.taken("8: five", 5, Works::lived, TwoLaws::clear);
        TwoLaws t = Works.full();
        Due.be("8: twelve", 12, t.clear());
        Due.be("8: then none", 0, t.clear());
        Due.be("8: no gap", 0, t.count(1));
        Due.be("8: room again", 0, t.gap(1, 1));
        Due.be("8: all else stays, the tape", FULL, t.type(32, 1));
        Due.be("8: all else stays, known laws", 4, t.count(2));
    }

    private static void heapsAre(String name, TwoLaws t, int laws, int fewest, int letGo, int together) {
        Due.be(name + ", laws", laws, t.lets(3, -1));
        Due.be(name + ", fewest", fewest, t.fewest());
        Due.be(name + ", let go", letGo, t.letGo(1, 1));
        Due.be(name + ", together", together, t.together(0, 1));
    }

    /** Promise 8: "All ROWS go", also where as many come again. */
    private static void clearThenAsManyRows() {
        TwoLaws t = Works.byEnds(1, 1);
        heapsAre("8: two of one law", t, 17, 1, 0, 2);
        t.clear();
        t.row(4, 0, 2);
        t.row(4, 0, 3);
        Due.be("8: the law of the first that went", 0, t.meets(0, Due.law(1, 0)));
        Due.be("8: the law of the first that came", 1, t.meets(0, Due.law(2, 0)));
        heapsAre("8: two of two laws", t, 0, 2, 1, 0);
        t.clear();
        t.gap(4, 0);
        t.row(4, 0, 4);
        heapsAre("8: a gap and one of a law", t, 17, 1, 0, 2);
    }

    /** Promise 9: rows that are there meet laws within the new ERROR. */
    private static void errorOfRowsThatAreThere() {
        TwoLaws t = Works.byEnds(1, 2);
        heapsAre("9: error 0", t, 0, 2, 1, 0);
        t.error(1);
        heapsAre("9: error 1", t, 34, 1, 0, 2);
        t.error(0);
        heapsAre("9: error 0 again", t, 0, 2, 1, 0);
        t.error(21);
        heapsAre("9: a refused error", t, 0, 2, 1, 0);
        t.error(20);
        heapsAre("9: error 20", t, 289, 1, 0, 2);
    }

    /** Promise 9: the ERROR is 0 .. 20; "BAD". */
    private static void errorBounds() {
        Edges.between("9: e", 0, 20, BAD, Works::fresh, TwoLaws::error);
        Edges.between("9: e of a lived one", 0, 20, BAD, Works::lived, TwoLaws::error);
        TwoLaws t = Works.fresh();
        Due.be("9: 1 at first", 1, t.error(0));
        Due.be("9: then 0", 0, t.error(20));
        Due.be("9: then 20", 20, t.error(20));
        Due.be("9: still 20", 20, t.error(1));
    }

    /** Promise 10: "a ROW", "a LAW (number)": 0 .. 288; "BAD". */
    private static void meetsBounds() {
        Edges.between("10: the row", 0, 4, BAD, Works::lived, (t, v) -> t.meets(v, 0));
        Edges.between("10: the row of a full one", 0, 11, BAD, Works::full, (t, v) -> t.meets(v, 0));
        Edges.between("10: the law", 0, 288, BAD, Works::lived, (t, v) -> t.meets(0, v));
        Edges.refusedOutside("10: the law of a gap", 0, 288, BAD, Works::lived, (t, v) -> t.meets(2, v));
        Edges.refused("10: no row at all", BAD, Works::fresh, t -> t.meets(0, 0));
    }

    /** Terms: "if 4 y is no farther from a x and b u together than 4 ERROR". */
    private static void meetsAtTheError() {
        for (int e = 0; e <= 20; e++) {
            TwoLaws t = Works.fresh();
            t.error(e);
            t.row(1, 1, e);
            t.row(1, 1, -e);
            t.row(1, 0, e);
            t.row(-1, 0, -e);
            Due.be("10: just so far, error " + e, 1, t.meets(0, Due.law(3, -3)));
            Due.be("10: just so far below, error " + e, 1, t.meets(1, Due.law(3, -3)));
            Due.be("10: a quarter farther, error " + e, 0, t.meets(2, Due.law(-1, 0)));
            Due.be("10: a quarter farther below, error " + e, 0, t.meets(3, Due.law(-1, 0)));
        }
    }

    /** Terms: "two PARTS a, b (-8 .. 8 each; its number: 17 (a and 8), and b and 8, together: 0 .. 288)". */
    private static void meetsLawsAtTheEnds() {
        int[][] laws = {{0, -8, -8}, {16, -8, 8}, {17, -7, -8}, {144, 0, 0}, {271, 7, 8}, {272, 8, -8}, {288, 8, 8}};
        for (int[] law : laws) {
            TwoLaws t = Works.fresh();
            t.error(0);
            t.row(4, 0, law[1]);
            t.row(0, 4, law[2]);
            Due.be("10: law " + law[0] + " by its state", 1, t.meets(0, law[0]));
            Due.be("10: law " + law[0] + " by its push", 1, t.meets(1, law[0]));
            Due.be("10: law " + law[0] + " alone", 1, t.lets(3, -1));
            Due.be("10: and its number", law[0], t.lets(3, 0));
        }
    }

    /** Terms: "a GAP MEETS all", whatever its state, its push, the error. */
    private static void meetsGap() {
        TwoLaws t = Works.fresh();
        t.error(0);
        t.gap(99, 99);
        t.gap(1, -2);
        Due.be("10: a gap, the first law", 1, t.meets(0, 0));
        Due.be("10: a gap, the last law", 1, t.meets(0, 288));
        Due.be("10: heaps of gaps let all", 289, t.lets(3, -1));
    }

    /** Promise 11: "BAD: also i below -1"; a HEAP is a set of ROWS, bits. */
    private static void letsBounds() {
        Edges.between("11: the heap", 0, 31, BAD, Works::lived, (t, v) -> t.lets(v, -1));
        Edges.between("11: the heap of a full one", 0, 4095, BAD, Works::full, (t, v) -> t.lets(v, -1));
        Edges.between("11: the heap without rows", 0, 0, BAD, Works::fresh, (t, v) -> t.lets(v, -1));
        for (int i : new int[] {-2, -3, Edges.LEAST}) {
            Edges.refused("11: i " + i, BAD, Works::lived, t -> t.lets(0, i));
            Edges.refused("11: i " + i + " of a heap that is not whole", BAD, Works::lived, t -> t.lets(9, i));
        }
        Edges.refused("11: BAD heap before NONE", BAD, Works::lived, t -> t.lets(32, 289));
    }

    /** Promise 11: "How many LAWS a HEAP lets (i -1), or the i-th of them ... NONE". */
    private static void letsNone() {
        Edges.taken("11: all of no row", 289, Works::fresh, t -> t.lets(0, -1));
        Edges.taken("11: the first of all", 0, Works::fresh, t -> t.lets(0, 0));
        Edges.taken("11: the last of all", 288, Works::fresh, t -> t.lets(0, 288));
        for (int i : new int[] {289, 290, Edges.MOST}) {
            Edges.refused("11: none at " + i, NONE, Works::fresh, t -> t.lets(0, i));
        }
        Edges.taken("11: a heap of one law, how many", 1, () -> oneLaw(3, -2), t -> t.lets(3, -1));
        Edges.taken("11: a heap of one law, the first", Due.law(3, -2), () -> oneLaw(3, -2), t -> t.lets(3, 0));
        Edges.refused("11: a heap of one law, the second", NONE, () -> oneLaw(3, -2), t -> t.lets(3, 1));
        Edges.taken("11: not whole, how many", 0, Works::lived, t -> t.lets(9, -1));
        Edges.refused("11: not whole, the first", NONE, Works::lived, t -> t.lets(9, 0));
    }

    private static TwoLaws oneLaw(int a, int b) {
        TwoLaws t = Works.fresh();
        t.error(0);
        t.row(4, 0, a);
        t.row(0, 4, b);
        return t;
    }

    /** Promise 12: 0 .. 4; "BAD". */
    private static void countBounds() {
        Edges.between("12: what", 0, 4, BAD, Works::fresh, TwoLaws::count);
        Edges.between("12: what of a lived one", 0, 4, BAD, Works::lived, TwoLaws::count);
        Edges.between("12: what of a full one", 0, 4, BAD, Works::full, TwoLaws::count);
    }

    /** Promise 12: each count, empty and full. */
    private static void countEmptyAndFull() {
        int[][] counts = {{0, 0, 0, 0, 0}, {5, 1, 3, 2, 1}, {12, 1, 4, 0, 0}};
        for (int what = 0; what <= 4; what++) {
            Due.be("12: fresh, " + what, counts[0][what], Works.fresh().count(what));
            Due.be("12: lived, " + what, counts[1][what], Works.lived().count(what));
            Due.be("12: full, " + what, counts[2][what], Works.full().count(what));
        }
        TwoLaws t = Works.fresh();
        for (int k = 0; k < 12; k++) {
            t.gap(k, k);
        }
        Due.be("12: twelve gaps", 12, t.count(1));
    }
}
