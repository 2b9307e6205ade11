/** Promises 1 to 12: a new object, rows, text, the error, laws. */
public final class RowsTest {
    public static void main(String[] args) {
        newObject();
        rowAndGap();
        rowsOfSheets();
        typing();
        texts();
        faultsOfTexts();
        thirteenthRow();
        toldRows();
        clearing();
        errors();
        meeting();
        letting();
        counting();
        Due.end();
    }

    private static void newObject() {
        TwoLaws t = new TwoLaws();
        for (int what = 0; what <= 4; what++) {
            Due.be("1: count(" + what + ")", 0, t.count(what));
        }
        Due.be("1: holds(0)", 0, t.holds(0));
        Due.be("1: holds(1)", 0, t.holds(1));
        Due.be("1: error is 1", 1, t.error(1));
        for (int s = 0; s < 4; s++) {
            Due.be("1: sheet " + s + " holds nothing", TwoLaws.NULL, t.drop(s));
        }
        Due.be("1: the tape is empty", -20, t.text());
    }

    private static void rowAndGap() {
        TwoLaws t = new TwoLaws();
        Due.be("2: row", 0, t.row(-99, 99, -99));
        Due.be("3: gap", 1, t.gap(99, -99));
        int[][] bad = {{100, 0, 0}, {-100, 0, 0}, {0, 100, 0}, {0, -100, 0}, {0, 0, 100}, {0, 0, -100},
            {Integer.MIN_VALUE, 0, 0}, {0, Integer.MAX_VALUE, 0}, {0, 0, Integer.MIN_VALUE}};
        for (int[] b : bad) {
            Due.be("2: row bad", TwoLaws.BAD, t.row(b[0], b[1], b[2]));
            if (b[2] == 0) {
                Due.be("3: gap bad", TwoLaws.BAD, t.gap(b[0], b[1]));
            }
        }
        for (int k = 2; k < 12; k++) {
            Due.be("2, 3: row " + k, k, k % 2 == 0 ? t.row(k, 1, k) : t.gap(k, 1));
        }
        Due.be("2: full", TwoLaws.FULL, t.row(0, 0, 0));
        Due.be("3: full", TwoLaws.FULL, t.gap(0, 0));
        Due.be("2: bad before full", TwoLaws.BAD, t.row(100, 0, 0));
        Due.be("3: bad before full", TwoLaws.BAD, t.gap(0, 100));
        Due.be("2, 3: rows stay 12", 12, t.count(0));
        Due.be("3: gaps", 6, t.count(1));
    }

    private static void rowsOfSheets() {
        for (int lane = 0; lane < 3; lane++) {
            TwoLaws t = new TwoLaws();
            t.sheet(2, lane, 36);
            for (int i = 0; i < 36; i++) {
                t.item(2, lane, i, i % 3 == 2 ? -i : i);
            }
            Due.be("4: none", 0, t.rows(2, lane, 36, 0));
            Due.be("4: beyond, though none", TwoLaws.INDEX, t.rows(2, lane, 37, 0));
            Due.be("4: below 0", TwoLaws.INDEX, t.rows(2, lane, -1, 1));
            Due.be("4: the greatest i", TwoLaws.INDEX, t.rows(2, lane, Integer.MAX_VALUE, 12));
            Due.be("4: the least i", TwoLaws.INDEX, t.rows(2, lane, Integer.MIN_VALUE, 12));
            Due.be("4: two rows", 2, t.rows(2, lane, 30, 2));
            Due.be("4: x", 30, t.told(0, 0));
            Due.be("4: u", 31, t.told(0, 1));
            Due.be("4: y", -32, t.told(0, 2));
            Due.be("4: the second y", -35, t.told(1, 2));
            Due.be("4: one item too far", TwoLaws.INDEX, t.rows(2, lane, 31, 2));
            Due.be("4: not all have room", TwoLaws.FULL, t.rows(2, lane, 0, 11));
            Due.be("4: none came", 2, t.count(0));
            Due.be("4: 10 have room", 10, t.rows(2, lane, 0, 10));
            Due.be("4: none has room always", 0, t.rows(2, lane, 0, 0));
            t.item(2, lane, 35, 100);
            Due.be("4: not before full", TwoLaws.NOT, t.rows(2, lane, 33, 1));
            t.item(2, lane, 35, -100);
            Due.be("4: not below", TwoLaws.NOT, t.rows(2, lane, 33, 1));
            t.item(2, lane, 0, 100);
            Due.be("4: the first is not", TwoLaws.NOT, t.rows(2, lane, 0, 1));
            Due.be("4: index before not", TwoLaws.INDEX, t.rows(2, lane, 33, 2));
            Due.be("4: cast before index", TwoLaws.CAST, t.rows(2, (lane + 1) % 3, 37, 1));
            Due.be("4: null before index", TwoLaws.NULL, t.rows(3, lane, 37, 1));
            Due.be("4: bad n", TwoLaws.BAD, t.rows(3, lane, 0, 13));
            Due.be("4: bad n", TwoLaws.BAD, t.rows(3, lane, 0, -1));
            Due.be("4: bad lane", TwoLaws.BAD, t.rows(3, 3, 0, 1));
            Due.be("4: bad lane", TwoLaws.BAD, t.rows(2, -1, 0, 1));
            Due.be("4: bad sheet", TwoLaws.BAD, t.rows(4, lane, 0, 1));
            Due.be("4: bad sheet", TwoLaws.BAD, t.rows(-1, lane, 0, 1));
        }
    }

    private static void typing() {
        TwoLaws t = new TwoLaws();
        Due.be("5: n 0", TwoLaws.BAD, t.type(120, 0));
        Due.be("5: n 9", TwoLaws.BAD, t.type(120, 9));
        Due.be("5: byte 31", TwoLaws.BAD, t.type(31, 1));
        Due.be("5: byte 127", TwoLaws.BAD, t.type(127, 1));
        Due.be("5: byte 255", TwoLaws.BAD, t.type(-1, 8));
        Due.be("5: an inner byte", TwoLaws.BAD, t.type(0x7831001fL, 4));
        Due.be("5: higher bytes are not looked at", 1, t.type(0xffffffffffffff00L | 'x', 1));
        Due.be("5: the highest first", 9, t.type(Due.bytes("1u-2y 33"), 8));
        Due.be("5: as text", 1, t.text());
        Due.be("5: x", 1, t.told(0, 0));
        Due.be("5: u", -2, t.told(0, 1));
        Due.be("5: y", 33, t.told(0, 2));
        Due.be("5: bytes 32 and 126", 2, t.type(0x207e, 2));
        for (int n = 10; n <= 114; n += 8) {
            Due.be("5: eight more", n, t.type(Due.bytes("        "), 8));
        }
        Due.be("5: up to 117", 117, t.type(Due.bytes("   "), 3));
        Due.be("5: full", TwoLaws.FULL, t.type(Due.bytes("    "), 4));
        Due.be("5: bad before full", TwoLaws.BAD, t.type(31, 4));
        Due.be("5: 120", 120, t.type(Due.bytes("   "), 3));
        Due.be("5: full", TwoLaws.FULL, t.type(32, 1));
        Due.be("5: the tape stands", -21, t.text());
    }

    private static void read(String text, int want) {
        TwoLaws t = new TwoLaws();
        Due.typed(t, text);
        Due.be("6: '" + text + "'", want, t.text());
        Due.be("6: rows of '" + text + "'", Math.max(want, 0), t.count(0));
        Due.be("6: the tape is empty behind '" + text + "'", 1, t.type(32, 1));
    }

    private static void texts() {
        read("x1u1y1", 1);
        read("x-99u99y-0", 1);
        read(" x 1 u 2 y 3 ", 1);
        read("x- 5u -  6y-7", 1);
        read("x1u1y?", 1);
        read("x1u1y ? ; x2u2y2 ", 2);
        read("x007u00y0000", 1);
        TwoLaws t = new TwoLaws();
        Due.typed(t, "x10u-3y?; x - 7 u 0 y 44");
        Due.be("6: two come", 2, t.text());
        Due.be("6: x", 10, t.told(0, 0));
        Due.be("6: u", -3, t.told(0, 1));
        Due.be("6: a gap", -1000004, t.told(0, 2));
        Due.be("6: x", -7, t.told(1, 0));
        Due.be("6: u", 0, t.told(1, 1));
        Due.be("6: y", 44, t.told(1, 2));
        Due.be("6: gaps", 1, t.count(1));
        read("x1u1y1;x1u1y1;x1u1y1;x1u1y1;x1u1y1;x1u1y1;x1u1y1;x1u1y1;x1u1y1;x1u1y1;x1u1y1;x1u1y1", 12);
    }

    private static void faultsOfTexts() {
        read("", -20);
        read("   ", -23);
        read("  z", -22);
        read("X1u1y1", -20);
        read("x", -21);
        read("x  ", -23);
        read("xu1y1", -21);
        read("x--1u1y1", -22);
        read("x-", -22);
        read("x- ", -23);
        read("x1 1u1y1", -23);
        read("x1   1u1y1", -25);
        read("x100u1y1", -21);
        read("x-100u1y1", -21);
        read("x - 100u1y1", -22);
        read("x 100u1y1", -22);
        read("x100", -21);
        read("x1u100zzz", -23);
        read("x1u1y100", -25);
        read("x99999999999999999999u1y1", -21);
        read("x1y1", -22);
        read("x1u?y1", -23);
        read("x?u1y1", -21);
        read("x1u1y-?", -26);
        read("x1u1y??", -26);
        read("x1u1y?1", -26);
        read("x1u1y1x2u2y2", -26);
        read("x1u1y1 2", -27);
        read("x1u1y1;", -27);
        read("x1u1y1; ", -28);
        read("x1u1y1;;x1u1y1", -27);
        read(";x1u1y1", -20);
        read("x+1u1y1", -21);
    }

    private static void thirteenthRow() {
        String row = "x1u1y1;";
        read(row.repeat(12) + "x1u1y1", -20 - 84);
        read(row.repeat(12) + " x1u1y1", -20 - 85);
        read(row.repeat(12), -20 - 84);
        TwoLaws t = new TwoLaws();
        for (int k = 0; k < 11; k++) {
            t.row(k, 0, k);
        }
        Due.typed(t, "x1u1y1; x1u1y1");
        Due.be("6: a thirteenth row's x", -28, t.text());
        Due.be("6: none came", 11, t.count(0));
        Due.typed(t, "x1u1y1; x100");
        Due.be("6: its x, whatever comes behind", -28, t.text());
        Due.typed(t, "x1u1y100; x1");
        Due.be("6: an earlier fault is first", -25, t.text());
        Due.typed(t, "x1u1y?");
        Due.be("6: a twelfth", 1, t.text());
        Due.typed(t, "  x1u1y?");
        Due.be("6: a thirteenth", -22, t.text());
        Due.be("6: none came", 12, t.count(0));
    }

    private static void toldRows() {
        TwoLaws t = new TwoLaws();
        t.row(-5, 6, -7);
        t.gap(8, -9);
        int[] want = {-5, 6, -7, 8, -9, -1000004};
        for (int k = 0; k < 6; k++) {
            Due.be("7: told " + k, want[k], t.told(k / 3, k % 3));
        }
        int[][] bad = {{2, 0}, {-1, 0}, {0, 3}, {0, -1}, {1, 3}, {Integer.MAX_VALUE, 0}, {0, Integer.MIN_VALUE}};
        for (int[] b : bad) {
            Due.be("7: bad", -1000001, t.told(b[0], b[1]));
        }
    }

    private static void clearing() {
        TwoLaws t = new TwoLaws();
        t.error(7);
        t.know(3);
        t.box(4, 5);
        t.sheet(0, 0, 9);
        t.row(1, 2, 3);
        t.gap(1, 2);
        Due.typed(t, "x9");
        Due.be("8: clear", 2, t.clear());
        Due.be("8: no rows", 0, t.count(0));
        Due.be("8: no gaps", 0, t.count(1));
        Due.be("8: again", 0, t.clear());
        Due.be("8: known laws stay", 1, t.count(2));
        Due.be("8: the error stays", 7, t.error(7));
        Due.be("8: the box stays", 5, t.holds(1));
        Due.be("8: sheets stay", 9, t.drop(0));
        Due.be("8: the tape stays", 3, t.type('u', 1));
        Due.be("8: the next row is the first", 0, t.row(99, 99, 99));
        Due.be("8: and no gap", 0, t.count(1));
        Due.be("8: and meets by itself alone", 0, t.meets(0, Due.law(0, 0)));
    }

    private static void errors() {
        TwoLaws t = new TwoLaws();
        t.row(4, 0, 6);
        Due.be("9: 4 of 4 quarters off", 1, t.meets(0, Due.law(5, 0)));
        Due.be("9: it was 1", 1, t.error(0));
        Due.be("9: now it is 0", 0, t.meets(0, Due.law(5, 0)));
        Due.be("9: it was 0", 0, t.error(20));
        Due.be("9: bad", TwoLaws.BAD, t.error(21));
        Due.be("9: bad", TwoLaws.BAD, t.error(-1));
        Due.be("9: bad changes nothing", 20, t.error(2));
        Due.be("9: it was 2", 2, t.error(2));
    }

    private static void meeting() {
        TwoLaws t = new TwoLaws();
        t.error(2);
        t.row(3, -5, 4);
        t.gap(99, 99);
        for (int law = 0; law < 289; law++) {
            int a = law / 17 - 8;
            int b = law % 17 - 8;
            Due.be("10: meets " + law, Math.abs(16 - 3 * a + 5 * b) <= 8 ? 1 : 0, t.meets(0, law));
            Due.be("10: a gap meets " + law, 1, t.meets(1, law));
        }
        int[][] bad = {{2, 0}, {-1, 0}, {0, 289}, {0, -1}, {1, 289}, {Integer.MIN_VALUE, 5}, {0, Integer.MAX_VALUE}};
        for (int[] b : bad) {
            Due.be("10: bad", TwoLaws.BAD, t.meets(b[0], b[1]));
        }
    }

    private static void letting() {
        TwoLaws t = new TwoLaws();
        Due.be("11: all of an empty heap", 289, t.lets(0, -1));
        Due.be("11: the last", 288, t.lets(0, 288));
        Due.be("11: none", TwoLaws.NONE, t.lets(0, 289));
        Due.be("11: none", TwoLaws.NONE, t.lets(0, Integer.MAX_VALUE));
        Due.be("11: no such row", TwoLaws.BAD, t.lets(1, -1));
        t.error(0);
        t.row(4, 0, 3);
        t.row(0, 4, -2);
        t.gap(7, 7);
        Due.be("11: a is 3", 17, t.lets(1, -1));
        Due.be("11: the first", Due.law(3, -8), t.lets(1, 0));
        Due.be("11: the last", Due.law(3, 8), t.lets(1, 16));
        Due.be("11: none", TwoLaws.NONE, t.lets(1, 17));
        Due.be("11: b is -2, the second", Due.law(-7, -2), t.lets(2, 1));
        Due.be("11: one law", 1, t.lets(7, -1));
        Due.be("11: which", Due.law(3, -2), t.lets(7, 0));
        Due.be("11: a gap lets all", 289, t.lets(4, -1));
        Due.be("11: i below -1", TwoLaws.BAD, t.lets(1, -2));
        Due.be("11: a heap of too many rows", TwoLaws.BAD, t.lets(8, -1));
        Due.be("11: a heap below 0", TwoLaws.BAD, t.lets(-1, -1));
        Due.be("11: the least number", TwoLaws.BAD, t.lets(Integer.MIN_VALUE, 0));
        t.row(4, 0, -3);
        Due.be("11: not whole", 0, t.lets(9, -1));
        Due.be("11: not whole, none", TwoLaws.NONE, t.lets(9, 0));
    }

    private static void counting() {
        TwoLaws t = new TwoLaws();
        t.row(1, 1, 1);
        t.gap(1, 1);
        t.gap(2, 2);
        t.know(0);
        t.know(144);
        t.watch(0, 0, 0);
        t.watch(0, 0, 9);
        t.watch(0, 0, 100);
        Due.be("12: rows", 3, t.count(0));
        Due.be("12: gaps", 2, t.count(1));
        Due.be("12: known laws", 2, t.count(2));
        Due.be("12: watched rows", 2, t.count(3));
        Due.be("12: that rang", 1, t.count(4));
        Due.be("12: bad", TwoLaws.BAD, t.count(5));
        Due.be("12: bad", TwoLaws.BAD, t.count(-1));
    }
}
