/** Promises 30 to 33: sheets. */
public final class SheetsTest {
    public static void main(String[] args) {
        making();
        dropping();
        items();
        copying();
        copyingRefused();
        Due.end();
    }

    private static void making() {
        TwoLaws t = new TwoLaws();
        Due.be("30: 0 items", 0, t.sheet(0, 0, 0));
        Due.be("30: 36 items", 36, t.sheet(3, 2, 36));
        Due.be("30: 37 items", TwoLaws.BAD, t.sheet(3, 2, 37));
        Due.be("30: -1 items", TwoLaws.SIZE, t.sheet(3, 2, -1));
        Due.be("30: the least number", TwoLaws.SIZE, t.sheet(3, 2, Integer.MIN_VALUE));
        Due.be("30: bad before size", TwoLaws.BAD, t.sheet(4, 2, -1));
        Due.be("30: bad sheet", TwoLaws.BAD, t.sheet(-1, 2, 1));
        Due.be("30: bad lane", TwoLaws.BAD, t.sheet(0, 3, -1));
        Due.be("30: bad lane", TwoLaws.BAD, t.sheet(0, -1, 1));
        Due.be("30: what is refused changes nothing", 36, t.drop(3));
        t.sheet(1, 1, 3);
        t.item(1, 1, 2, 5);
        Due.be("30: a new row", 3, t.sheet(1, 1, 3));
        t.row(0, 0, 0);
        Due.be("30: its items are 0", TwoLaws.NONE, t.check(1, 1, 2));
        t.clear();
        Due.be("30: as rows", 1, t.rows(1, 1, 0, 1));
        Due.be("30: y is 0", 0, t.told(0, 2));
        Due.be("30: another lane", 2, t.sheet(1, 2, 2));
        Due.be("30: then it is that lane's", TwoLaws.CAST, t.item(1, 1, 0, 0));
        Due.be("30: and shorter", TwoLaws.INDEX, t.item(1, 2, 2, 0));
    }

    private static void dropping() {
        TwoLaws t = new TwoLaws();
        Due.be("31: nothing", TwoLaws.NULL, t.drop(2));
        t.sheet(2, 1, 7);
        Due.be("31: had 7", 7, t.drop(2));
        Due.be("31: nothing now", TwoLaws.NULL, t.drop(2));
        t.sheet(2, 1, 0);
        Due.be("31: had 0", 0, t.drop(2));
        Due.be("31: nothing now", TwoLaws.NULL, t.item(2, 1, 0, 0));
        Due.be("31: bad", TwoLaws.BAD, t.drop(4));
        Due.be("31: bad", TwoLaws.BAD, t.drop(-1));
    }

    /** What an item is, told by the row that it makes: y of a row, or what is not a row. */
    private static int itemAsEnd(int lane, int v) {
        TwoLaws t = new TwoLaws();
        t.sheet(0, lane, 3);
        t.item(0, lane, 2, v);
        int answer = t.rows(0, lane, 0, 1);
        return answer < 0 ? answer : t.told(0, 2);
    }

    private static void items() {
        TwoLaws t = new TwoLaws();
        t.sheet(1, 1, 4);
        Due.be("32: the first", 1, t.item(1, 1, 0, 9));
        Due.be("32: the last", 1, t.item(1, 1, 3, 9));
        Due.be("32: beyond", TwoLaws.INDEX, t.item(1, 1, 4, 9));
        Due.be("32: below", TwoLaws.INDEX, t.item(1, 1, -1, 9));
        Due.be("32: far", TwoLaws.INDEX, t.item(1, 1, Integer.MAX_VALUE, 9));
        Due.be("32: far below", TwoLaws.INDEX, t.item(1, 1, Integer.MIN_VALUE, 9));
        Due.be("32: cast before index", TwoLaws.CAST, t.item(1, 0, 4, 9));
        Due.be("32: cast", TwoLaws.CAST, t.item(1, 2, 0, 9));
        Due.be("32: null", TwoLaws.NULL, t.item(0, 2, 40, 9));
        Due.be("32: bad before null", TwoLaws.BAD, t.item(0, 3, 0, 9));
        Due.be("32: bad lane", TwoLaws.BAD, t.item(1, -1, 0, 9));
        Due.be("32: bad sheet", TwoLaws.BAD, t.item(4, 1, 0, 9));
        Due.be("32: bad sheet", TwoLaws.BAD, t.item(-1, 1, 0, 9));
        Due.be("32: a byte's lowest bits", -1, itemAsEnd(0, 255));
        Due.be("32: a byte's lowest bits", 1, itemAsEnd(0, 257));
        Due.be("32: a byte", TwoLaws.NOT, itemAsEnd(0, 128));
        Due.be("32: a short's lowest bits", -1, itemAsEnd(1, 65535));
        Due.be("32: a short's lowest bits", 1, itemAsEnd(1, 65537));
        Due.be("32: a short", TwoLaws.NOT, itemAsEnd(1, 255));
        Due.be("32: an int", TwoLaws.NOT, itemAsEnd(2, 65537));
        Due.be("32: an int", -99, itemAsEnd(2, -99));
    }

    /** A sheet's items, told by rows; they must be -99 .. 99 and in threes. */
    private static String itemsOf(TwoLaws t, int sheet, int lane, int n) {
        t.clear();
        t.rows(sheet, lane, 0, n / 3);
        StringBuilder told = new StringBuilder();
        for (int k = 0; k < n; k++) {
            told.append(t.told(k / 3, k % 3)).append(' ');
        }
        return told.toString().trim();
    }

    private static void copying() {
        TwoLaws t = new TwoLaws();
        for (int lane = 0; lane < 3; lane++) {
            t.sheet(0, lane, 6);
            t.sheet(1, lane, 3);
            for (int i = 0; i < 6; i++) {
                t.item(0, lane, i, i + 1);
            }
            Due.be("33: to another", 2, t.copy(0, 4, 1, 1, 2));
            Due.hold("33: as told", itemsOf(t, 1, lane, 3).equals("0 5 6"));
            Due.be("33: up in the same", 4, t.copy(0, 0, 0, 1, 4));
            Due.hold("33: as if taken ahead", itemsOf(t, 0, lane, 6).equals("1 1 2 3 4 6"));
            Due.be("33: down in the same", 4, t.copy(0, 2, 0, 0, 4));
            Due.hold("33: as if taken ahead", itemsOf(t, 0, lane, 6).equals("2 3 4 6 4 6"));
            Due.be("33: none, at both ends", 0, t.copy(0, 6, 1, 3, 0));
            Due.be("33: a copy is not tied", 1, t.item(0, lane, 4, 50));
            Due.hold("33: the copy stays", itemsOf(t, 1, lane, 3).equals("0 5 6"));
        }
    }

    private static void copyingRefused() {
        TwoLaws t = new TwoLaws();
        t.sheet(0, 1, 6);
        t.sheet(1, 1, 4);
        t.sheet(2, 2, 4);
        int most = Integer.MAX_VALUE;
        int[][] calls = {{0, 3, 1, 0, 4}, {0, 0, 1, 1, 4}, {0, -1, 1, 0, 1}, {0, 0, 1, -1, 1}, {0, 0, 1, 0, -1},
            {0, 7, 1, 0, 0}, {0, 0, 1, 5, 0}, {0, most, 1, 0, most}, {0, 1, 1, 1, most}, {0, most, 1, 0, 1},
            {0, 0, 1, most, 1}, {0, 0, 0, 0, Integer.MIN_VALUE}};
        for (int[] c : calls) {
            Due.be("33: index", TwoLaws.INDEX, t.copy(c[0], c[1], c[2], c[3], c[4]));
        }
        Due.be("33: cast before index", TwoLaws.CAST, t.copy(0, 9, 2, 0, 9));
        Due.be("33: null before cast", TwoLaws.NULL, t.copy(3, 0, 2, 0, 1));
        Due.be("33: null, the other", TwoLaws.NULL, t.copy(2, 0, 3, 0, 1));
        Due.be("33: null, itself", TwoLaws.NULL, t.copy(3, 0, 3, 0, 0));
        Due.be("33: bad before null", TwoLaws.BAD, t.copy(3, 0, 4, 0, 1));
        Due.be("33: bad", TwoLaws.BAD, t.copy(4, 0, 0, 0, 1));
        Due.be("33: bad", TwoLaws.BAD, t.copy(-1, 0, 0, 0, 1));
        Due.be("33: bad", TwoLaws.BAD, t.copy(0, 0, -1, 0, 1));
    }
}
