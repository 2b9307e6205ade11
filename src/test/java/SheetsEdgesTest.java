/** Edges of promises 30 to 33, a method for each sentence of the document that names one. */
public final class SheetsEdgesTest {
    private static final int BAD = TwoLaws.BAD, NOT = TwoLaws.NOT;
    private static final int NULL = TwoLaws.NULL, CAST = TwoLaws.CAST, INDEX = TwoLaws.INDEX, SIZE = TwoLaws.SIZE;

    public static void main(String[] args) {
        sheetBounds();
        sheetSize();
        sheetEmptyAndFull();
        sheetIsNew();
        dropBounds();
        dropNull();
        dropEmptyAndFull();
        itemBounds();
        itemNullAndCast();
        itemIndex();
        itemLowestBits();
        itemOrder();
        copyBounds();
        copyNull();
        copyCast();
        copyIndex();
        copyNone();
        copyAsIfTakenAhead();
        copyOrder();
        Due.end();
    }

    /** Promise 30: "BAD" of the SHEET (0 .. 3), the LANE (0 .. 2); "also n above 36". */
    private static void sheetBounds() {
        Edges.between("30: the sheet", 0, 3, BAD, Works::lived, (t, v) -> t.sheet(v, 0, 1));
        Edges.between("30: the lane", 0, 2, BAD, Works::lived, (t, v) -> t.sheet(0, v, 1));
        for (int n : new int[] {37, 38, Edges.MOST}) {
            for (int s = 0; s < 4; s++) {
                int sheet = s;
                Edges.refused("30: n " + n, BAD, Works::lived, t -> t.sheet(sheet, 1, n));
            }
        }
    }

    /** Promise 30: "SIZE: n below 0"; BAD is named first. */
    private static void sheetSize() {
        for (int n : new int[] {-1, -2, Edges.LEAST}) {
            for (int s = 0; s < 4; s++) {
                int sheet = s;
                Edges.refused("30: n " + n, SIZE, Works::lived, t -> t.sheet(sheet, 1, n));
            }
            Edges.refused("30: BAD sheet before SIZE", BAD, Works::lived, t -> t.sheet(4, 0, n));
            Edges.refused("30: BAD sheet below before SIZE", BAD, Works::lived, t -> t.sheet(-1, 0, n));
            Edges.refused("30: BAD lane before SIZE", BAD, Works::lived, t -> t.sheet(0, 3, n));
            Edges.refused("30: BAD lane below before SIZE", BAD, Works::lived, t -> t.sheet(0, -1, n));
        }
    }

    /** Terms: "a row of a LANE: ... of 0 to 36 items". */
    private static void sheetEmptyAndFull() {
        for (int k = 0; k < 12; k++) {
            int sheet = k / 3;
            int lane = k % 3;
            TwoLaws t = Works.fresh();
            Due.be("30: no item", 0, t.sheet(sheet, lane, 0));
            Due.be("30: no first item", INDEX, t.item(sheet, lane, 0, 1));
            Due.be("30: 36 items", 36, t.sheet(sheet, lane, 36));
            Due.be("30: the last item", 1, t.item(sheet, lane, 35, 1));
            Due.be("30: none behind it", INDEX, t.item(sheet, lane, 36, 1));
            Due.be("30: had 36", 36, t.drop(sheet));
        }
    }

    /** Promise 30: "A SHEET holds a new row": "0 at first", whatever the old one was. */
    private static void sheetIsNew() {
        for (int sheet = 0; sheet < 3; sheet++) {
            TwoLaws t = Works.lived();
            t.clear();
            Due.be("30: a new row of another lane", 6, t.sheet(sheet, (sheet + 1) % 3, 6));
            Due.be("30: it is the new lane's", 2, t.rows(sheet, (sheet + 1) % 3, 0, 2));
            Due.be("30: not the old one's", CAST, t.rows(sheet, sheet, 0, 2));
            for (int what = 0; what < 6; what++) {
                Due.be("30: 0 at first", 0, t.told(what / 3, what % 3));
            }
        }
        TwoLaws t = Works.full();
        t.clear();
        t.sheet(0, 0, 3);
        t.sheet(0, 0, 36);
        Due.be("30: a longer one again", 12, t.rows(0, 0, 0, 12));
        Due.be("30: 0 at first, the first item", 0, t.told(0, 0));
        Due.be("30: 0 at first, the last item", 0, t.told(11, 2));
    }

    /** Promise 31: "BAD". */
    private static void dropBounds() {
        Edges.between("31: the sheet", 0, 3, BAD, Works::lived, TwoLaws::drop);
        Edges.between("31: the sheet of a full one", 0, 3, BAD, Works::full, TwoLaws::drop);
        Edges.between("31: the sheet of a fresh one", 0, 3, BAD, Works::fresh, TwoLaws::drop);
    }

    /** Promise 31: "NULL". */
    private static void dropNull() {
        for (int s = 0; s < 4; s++) {
            int sheet = s;
            Edges.refused("31: nothing at first", NULL, Works::fresh, t -> t.drop(sheet));
        }
        Edges.refused("31: nothing", NULL, Works::lived, t -> t.drop(3));
        TwoLaws t = Works.lived();
        Due.be("31: nine", 9, t.drop(0));
        Due.be("31: then nothing", NULL, t.drop(0));
        Due.be("31: the others stay", 6, t.drop(1));
    }

    /** Promise 31: "how many items it had": 0 to 36; an empty row is not nothing. */
    private static void dropEmptyAndFull() {
        for (int lane = 0; lane < 3; lane++) {
            for (int n : new int[] {0, 1, 35, 36}) {
                TwoLaws t = Works.fresh();
                t.sheet(2, lane, n);
                Due.be("31: had " + n, n, t.drop(2));
                Due.be("31: nothing now", NULL, t.rows(2, lane, 0, 0));
            }
        }
    }

    /** Promise 32: "BAD" of the SHEET, the LANE. */
    private static void itemBounds() {
        Edges.between("32: the sheet", 0, 3, BAD, Works::lived, (t, v) -> t.item(v, 0, 0, 50));
        Edges.between("32: the lane", 0, 2, BAD, Works::lived, (t, v) -> t.item(0, v, 0, 50));
    }

    /** Promise 32: "NULL; CAST". */
    private static void itemNullAndCast() {
        for (int k = 0; k < 12; k++) {
            int sheet = k / 3;
            int lane = k % 3;
            if (sheet != lane) {
                int want = sheet == 3 ? NULL : CAST;
                Edges.refused("32: sheet " + sheet + " as lane " + lane, want, Works::lived, t -> t.item(sheet, lane, 0, 50));
            } else {
                Due.be("32: as it is", 1, Works.lived().item(sheet, lane, 0, 50));
            }
        }
    }

    /** Promise 32: "INDEX". */
    private static void itemIndex() {
        int[] lengths = {9, 6, 36};
        for (int s = 0; s < 3; s++) {
            int sheet = s;
            Edges.between("32: i of lane " + sheet, 0, lengths[sheet] - 1, INDEX, Works::lived, (t, v) -> t.item(sheet, sheet, v, 50));
        }
        TwoLaws t = Works.lived();
        t.clear();
        t.item(0, 0, 0, 50);
        t.item(0, 0, 8, 60);
        t.rows(0, 0, 0, 3);
        int[] items = {50, 2, 3, 4, 5, 6, 0, 0, 60};
        for (int i = 0; i < 9; i++) {
            Due.be("32: item " + i + " and no other", items[i], t.told(i / 3, i % 3));
        }
    }

    /** What an item of a lane is, told by a row's end; NOT, if it is not -99 .. 99. */
    private static int itemAsEnd(int lane, int v) {
        TwoLaws t = Works.fresh();
        t.sheet(0, lane, 3);
        Due.be("32: any number is taken, " + v, 1, t.item(0, lane, 2, v));
        int answer = t.rows(0, lane, 0, 1);
        return answer < 0 ? answer : t.told(0, 2);
    }

    /** Promise 32: "becomes v, its lowest bits": 8 of a byte, 16 of a short, all of an int, with the sign. */
    private static void itemLowestBits() {
        int[] bits = {8, 16, 32};
        int[] numbers = {0, 1, -1, 99, -99, 100, -100, 127, -128, 128, 156, 157, 255, 256, 257, -129, -255, -256, 511, 32767, -32768,
            32768, 65437, 65535, 65536, 65537, -65535, -65536, 1 << 24, 1 << 31, Edges.MOST, Edges.LEAST + 5};
        for (int lane = 0; lane < 3; lane++) {
            for (int v : numbers) {
                long round = 1L << bits[lane];
                long low = Math.floorMod((long) v, round);
                long item = low >= round / 2 ? low - round : low;
                Due.be("32: " + v + " of lane " + lane, Math.abs(item) <= 99 ? item : NOT, itemAsEnd(lane, v));
            }
        }
        Due.be("32: 157 is a byte of -99", -99, itemAsEnd(0, 157));
        Due.be("32: 65437 is a short of -99", -99, itemAsEnd(1, 65437));
        Due.be("32: 65437 is an int as it is", NOT, itemAsEnd(2, 65437));
    }

    /** Terms: "of several the first that a call names": BAD; NULL; CAST; INDEX. */
    private static void itemOrder() {
        Edges.refused("32: BAD lane before NULL", BAD, Works::lived, t -> t.item(3, 3, 0, 50));
        Edges.refused("32: BAD lane before INDEX", BAD, Works::lived, t -> t.item(0, -1, 99, 50));
        Edges.refused("32: NULL before INDEX", NULL, Works::lived, t -> t.item(3, 0, -1, 50));
        Edges.refused("32: CAST before INDEX", CAST, Works::lived, t -> t.item(0, 1, 9, 50));
    }

    /** Promise 33: "BAD" of either sheet. */
    private static void copyBounds() {
        Edges.between("33: from", 0, 3, BAD, Works::full, (t, v) -> t.copy(v, 0, 2, 1, 1));
        Edges.between("33: to", 0, 3, BAD, Works::full, (t, v) -> t.copy(2, 0, v, 1, 1));
    }

    /** Promise 33: "NULL (either)". */
    private static void copyNull() {
        Edges.refused("33: from nothing", NULL, Works::lived, t -> t.copy(3, 0, 0, 0, 1));
        Edges.refused("33: to nothing", NULL, Works::lived, t -> t.copy(0, 0, 3, 0, 1));
        Edges.refused("33: nothing to itself", NULL, Works::lived, t -> t.copy(3, 0, 3, 0, 1));
        Edges.refused("33: no items of nothing", NULL, Works::lived, t -> t.copy(3, 0, 0, 0, 0));
        Edges.refused("33: no items to nothing", NULL, Works::lived, t -> t.copy(0, 0, 3, 0, 0));
    }

    /** Promise 33: "CAST: of unlike LANES". */
    private static void copyCast() {
        for (int k = 0; k < 9; k++) {
            int from = k / 3;
            int to = k % 3;
            if (from != to) {
                Edges.refused("33: " + from + " to " + to, CAST, Works::lived, t -> t.copy(from, 0, to, 0, 1));
                Edges.refused("33: no items of " + from + " to " + to, CAST, Works::lived, t -> t.copy(from, 0, to, 0, 0));
            } else {
                Due.be("33: in itself", 1, Works.lived().copy(from, 0, to, 1, 1));
            }
        }
        Due.be("33: two sheets of one lane", 1, Works.full().copy(2, 0, 3, 1, 1));
    }

    /** Nine ints 1 to 9 in sheet 0, six ints in sheet 1. */
    private static TwoLaws nineAndSix() {
        TwoLaws t = Works.livedWithoutTape();
        t.clear();
        t.sheet(0, 2, 9);
        t.sheet(1, 2, 6);
        for (int i = 0; i < 9; i++) {
            t.item(0, 2, i, i + 1);
        }
        return t;
    }

    /** Promise 33: "INDEX", of the one or the other. */
    private static void copyIndex() {
        int[][] taken = {{0, 3, 1, 0, 6}, {0, 8, 1, 5, 1}, {1, 0, 0, 3, 6}, {0, 0, 0, 0, 9}, {0, 9, 1, 6, 0}};
        for (int[] c : taken) {
            Edges.taken("33: just so far", c[4], SheetsEdgesTest::nineAndSix, t -> t.copy(c[0], c[1], c[2], c[3], c[4]));
        }
        int least = Edges.LEAST;
        int most = Edges.MOST;
        int[][] refused = {{0, 4, 1, 0, 6}, {0, 3, 1, 1, 6}, {0, 0, 1, 0, 7}, {0, 9, 1, 5, 1}, {0, 8, 1, 6, 1}, {0, -1, 1, 0, 1},
            {0, 0, 1, -1, 1}, {1, 0, 0, 4, 6}, {0, 0, 0, 0, 10}, {0, 10, 1, 0, 0}, {0, 0, 1, 7, 0}, {0, 0, 1, 0, -1}, {0, 5, 1, 5, -1},
            {0, least, 1, 0, 1}, {0, 0, 1, least, 1}, {0, 0, 1, 0, least}, {0, most, 1, 0, 1}, {0, 0, 1, most, 1}, {0, 0, 1, 0, most},
            {0, most, 1, most, most}, {0, 1, 1, 1, most}, {0, least, 1, least, least}, {0, most, 1, 0, least}};
        for (int[] c : refused) {
            String name = "33: " + c[1] + " to " + c[3] + ", " + c[4] + " items";
            Edges.refused(name, INDEX, SheetsEdgesTest::nineAndSix, t -> t.copy(c[0], c[1], c[2], c[3], c[4]));
        }
    }

    /** Promise 33: "n items", also none. */
    private static void copyNone() {
        Edges.changesNothing("33: none", 0, SheetsEdgesTest::nineAndSix, t -> t.copy(0, 2, 1, 2, 0));
        Edges.changesNothing("33: none, at both ends", 0, SheetsEdgesTest::nineAndSix, t -> t.copy(0, 9, 1, 6, 0));
        Edges.changesNothing("33: all to their own places", 9, SheetsEdgesTest::nineAndSix, t -> t.copy(0, 0, 0, 0, 9));
        TwoLaws t = Works.fresh();
        t.sheet(0, 1, 0);
        Due.be("33: none of an empty row", 0, t.copy(0, 0, 0, 0, 0));
        Due.be("33: one of an empty row", INDEX, t.copy(0, 0, 0, 0, 1));
    }

    private static void itemsAre(String name, TwoLaws t, int sheet, int... items) {
        t.clear();
        t.rows(sheet, 2, 0, items.length / 3);
        for (int i = 0; i < items.length; i++) {
            Due.be("33: " + name + ", item " + i, items[i], t.told(i / 3, i % 3));
        }
    }

    /** Promise 33: "another one (or the same) ..., as if all were taken ahead". */
    private static void copyAsIfTakenAhead() {
        TwoLaws t = nineAndSix();
        t.copy(0, 0, 0, 1, 8);
        itemsAre("up by one", t, 0, 1, 1, 2, 3, 4, 5, 6, 7, 8);
        t = nineAndSix();
        t.copy(0, 1, 0, 0, 8);
        itemsAre("down by one", t, 0, 2, 3, 4, 5, 6, 7, 8, 9, 9);
        t = nineAndSix();
        t.copy(0, 0, 0, 3, 6);
        itemsAre("up by three", t, 0, 1, 2, 3, 1, 2, 3, 4, 5, 6);
        t = nineAndSix();
        t.copy(0, 3, 1, 0, 6);
        itemsAre("to another", t, 1, 4, 5, 6, 7, 8, 9);
        itemsAre("from one that stays", t, 0, 1, 2, 3, 4, 5, 6, 7, 8, 9);
        t.item(0, 2, 3, 77);
        itemsAre("and is not tied to it", t, 1, 4, 5, 6, 7, 8, 9);
    }

    /** Terms: "of several the first that a call names": BAD; NULL; CAST; INDEX. */
    private static void copyOrder() {
        Edges.refused("33: BAD to before NULL from", BAD, Works::lived, t -> t.copy(3, 0, 4, 0, 1));
        Edges.refused("33: BAD from before NULL to", BAD, Works::lived, t -> t.copy(-1, 0, 3, 0, 1));
        Edges.refused("33: BAD before INDEX", BAD, Works::lived, t -> t.copy(0, -1, 4, 0, 1));
        Edges.refused("33: NULL before INDEX", NULL, Works::lived, t -> t.copy(3, -1, 0, 0, -1));
        Edges.refused("33: NULL to before INDEX", NULL, Works::lived, t -> t.copy(0, 99, 3, 0, 1));
        Edges.refused("33: CAST before INDEX", CAST, Works::lived, t -> t.copy(0, 99, 1, 0, 1));
        Edges.refused("33: CAST before INDEX of n", CAST, Works::lived, t -> t.copy(0, 0, 1, 0, -1));
    }
}
