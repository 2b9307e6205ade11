import java.lang.reflect.Method;
import java.util.ArrayList;
import java.util.List;
import java.util.Set;
import java.util.TreeSet;
import java.util.regex.Matcher;
import java.util.regex.Pattern;

/** The document's face and its promises 1 to 33, sentence by sentence. */
public final class PromisesSentencesTest {
    private static final String[] NAMES = {"A new object", "row", "gap", "rows", "type", "text", "told", "clear", "error", "meets", "lets",
        "count", "fewest", "letGo", "together", "span", "line", "hours", "wear", "check", "tries", "best", "apart", "know", "box", "step",
        "holds", "brake", "watch", "sheet", "drop", "item", "copy"};
    /** Twelve rows. */
    private static final String FULL = "gap(0, 0); ".repeat(12);
    /** Rows 0 and 2 meet laws whose part a is 3, row 1 those whose part a is 4; row 3 meets none. */
    private static final String ENDS = "error(0); row(4, 0, 3); row(4, 0, 4); row(4, 0, 3); row(4, 0, 9); ";

    public static void main(String[] args) {
        headings();
        publicFace();
        rowsAndSheetsOfRows();
        texts();
        rowsTold();
        laws();
        partings();
        parted();
        worn();
        tried();
        boxes();
        watched();
        sheets();
        items();
        Due.end();
    }

    private static void headings() {
        if (Sentences.document().isEmpty()) {
            return;
        }
        List<String> want = new ArrayList<>(List.of("What it is", "The public face", "Terms"));
        for (int k = 0; k < NAMES.length; k++) {
            want.add(heading(k + 1));
        }
        want.add("Not promised");
        Due.hold("the document's headings are " + want, Sentences.headings().equals(want));
    }

    private static String heading(int promise) {
        return "Promise " + promise + ": " + NAMES[promise - 1];
    }

    private static Sentences promise(int number) {
        return Sentences.of(heading(number));
    }

    /** "The public face": every call and constant as it is written there. */
    private static void publicFace() {
        Set<String> written = new TreeSet<>();
        Matcher call = Pattern.compile("public int (\\w+)\\(([^)]*)\\);").matcher(Sentences.document());
        while (call.find()) {
            written.add(call.group(1) + "(" + call.group(2).replaceAll(" \\w+(,|$)", "$1").replace(" ", "") + ")");
        }
        Set<String> there = new TreeSet<>();
        for (Method m : TwoLaws.class.getMethods()) {
            if (m.getDeclaringClass() == TwoLaws.class) {
                StringBuilder types = new StringBuilder();
                for (Class<?> type : m.getParameterTypes()) {
                    types.append(types.length() == 0 ? "" : ",").append(type.getName());
                }
                there.add(m.getName() + "(" + types + ")");
            }
        }
        Due.hold("the face is " + there, Sentences.document().isEmpty() || there.equals(written));
        constants();
    }

    private static void constants() {
        Matcher constant = Pattern.compile("\\b([A-Z]+) = (-\\d+)[,;]").matcher(Sentences.document());
        int seen = 0;
        while (constant.find()) {
            seen++;
            try {
                Due.be(constant.group(1), Integer.parseInt(constant.group(2)), TwoLaws.class.getField(constant.group(1)).getInt(null));
            } catch (ReflectiveOperationException e) {
                Due.hold("there is a constant " + constant.group(1), false);
            }
        }
        Due.hold("eight constants", Sentences.document().isEmpty() || seen == 8);
    }

    private static void rowsAndSheetsOfRows() {
        promise(1)
            .says("No ROWS,", "count(0) = 0; count(1) = 0; told(0, 0) = BAD-1000000; lets(1, -1) = BAD; fewest() = 0; clear() = 0; "
                + "row(1, 1, 1) = 0")
            .says("no KNOWN LAWS;", "count(2) = 0; count(3) = 0; count(4) = 0; step(1) = NONE; watch(0, 0, 0) = NOT; "
                + "brake(0, 1, 0, 0) = NOT; know(0) = 0")
            .says("the BOX is 0 to 0.", "holds(0) = 0; holds(1) = 0; know(280) = 0; step(9) = 1; holds(0) = -1; holds(1) = 1").end();
        promise(2)
            .says("A ROW: its number.", "row(5, 6, 7) = 0; row(-1, -2, -3) = 1; count(0) = 2; count(1) = 0; told(0, 0) = 5; "
                + "told(0, 1) = 6; told(0, 2) = 7; told(1, 0) = -1; told(1, 1) = -2; told(1, 2) = -3; clear() = 2; row(99, 99, 99) = 0; "
                + "row(-99, -99, -99) = 1")
            .says("BAD;", "row(100, 0, 0) = BAD; row(-100, 0, 0) = BAD; row(0, 100, 0) = BAD; row(0, -100, 0) = BAD; row(0, 0, 100) = BAD; "
                + "row(0, 0, -100) = BAD; row(LEAST, 0, 0) = BAD; row(0, MOST, 0) = BAD; row(0, 0, LEAST) = BAD; count(0) = 0",
                FULL + "row(0, 0, 100) = BAD")
            .says("FULL: 12.", FULL.substring(11)
                + "row(1, 1, 1) = 11; row(1, 1, 1) = FULL; count(0) = 12; clear() = 12; row(1, 1, 1) = 0").end();
        promise(3)
            .says("A ROW with a GAP: its number.", "gap(5, -6) = 0; row(1, 1, 1) = 1; gap(99, -99) = 2; count(0) = 3; count(1) = 2; "
                + "told(0, 0) = 5; told(0, 1) = -6; told(0, 2) = NONE-1000000; told(1, 2) = 1; told(2, 0) = 99; lets(5, -1) = 289; "
                + "clear() = 3; count(1) = 0; row(1, 1, 2) = 0; told(0, 2) = 2")
            .says("BAD;", "gap(100, 0) = BAD; gap(-100, 0) = BAD; gap(0, 100) = BAD; gap(0, -100) = BAD; gap(MOST, 0) = BAD; "
                + "gap(0, LEAST) = BAD; count(0) = 0",
                FULL + "gap(100, 0) = BAD")
            .says("FULL.", FULL + "gap(1, 1) = FULL; count(1) = 12").end();
        rowsOfSheets();
    }

    private static void rowsOfSheets() {
        String six = "sheet(1, L, 6) = 6; item(1, L, 0, 1) = 1; item(1, L, 1, -2) = 1; item(1, L, 2, 3) = 1; item(1, L, 3, 99) = 1; "
                + "item(1, L, 4, -99) = 1; ";
        promise(4)
            .says("n ROWS (0 .. 12), x, u, y each, from a SHEET, taken as a row of a LANE, from item i on: n.",
                six + "rows(1, L, 0, 2) = 2; told(0, 0) = 1; told(0, 1) = -2; told(0, 2) = 3; told(1, 0) = 99; told(1, 1) = -99; "
                + "told(1, 2) = 0; rows(1, L, 1, 1) = 1; told(2, 0) = -2; told(2, 1) = 3; told(2, 2) = 99; rows(1, L, 6, 0) = 0; "
                + "count(0) = 3; count(1) = 0; sheet(1, L, 36) = 36; clear() = 3; rows(1, L, 0, 12) = 12; count(0) = 12; "
                + "rows(1, L, 0, 0) = 0")
            .says("BAD;", six + "rows(-1, L, 0, 1) = BAD; rows(4, L, 0, 1) = BAD; rows(1, L, 0, -1) = BAD; rows(1, L, 0, 13) = BAD; "
                + "rows(0, L, 0, 13) = BAD; rows(1, -1, 0, 1) = BAD; rows(1, 3, 0, 1) = BAD; rows(LEAST, L, 0, 1) = BAD; "
                + "rows(1, L, 0, MOST) = BAD; count(0) = 0")
            .says("NULL;", "rows(1, L, 0, 1) = NULL; rows(1, L, 0, 0) = NULL; rows(1, L, 99, 1) = NULL")
            .says("CAST;", "sheet(0, 0, 6); rows(0, 1, 0, 1) = CAST; rows(0, 2, 99, 1) = CAST; sheet(0, 1, 6); rows(0, 0, 0, 1) = CAST; "
                + "rows(0, 2, 0, 0) = CAST; sheet(0, 2, 6); rows(0, 0, 0, 1) = CAST; rows(0, 1, 0, 1) = CAST; rows(0, 2, 0, 1) = 1")
            .says("INDEX;", six + "rows(1, L, -1, 1) = INDEX; rows(1, L, 4, 1) = INDEX; rows(1, L, 1, 2) = INDEX; "
                + "rows(1, L, 0, 3) = INDEX; rows(1, L, 6, 1) = INDEX; rows(1, L, MOST, 12) = INDEX; rows(1, L, LEAST, 1) = INDEX; "
                + "rows(1, L, 3, 1) = 1; item(1, L, 5, 100) = 1; rows(1, L, 4, 1) = INDEX")
            .says("NOT: one is not -99 .. 99;", six + "item(1, L, 5, 100) = 1; rows(1, L, 0, 2) = NOT; count(0) = 0; rows(1, L, 0, 1) = 1; "
                + "item(1, L, 5, -100) = 1; rows(1, L, 3, 1) = NOT; item(1, L, 5, -99) = 1; item(1, L, 3, 100) = 1; "
                + "rows(1, L, 3, 1) = NOT; item(1, L, 3, 99) = 1; item(1, L, 4, 100) = 1; rows(1, L, 2, 1) = NOT; rows(1, L, 1, 1) = 1; "
                + FULL + "rows(1, L, 3, 1) = NOT")
            .says("FULL: not all have room.", six + FULL.substring(11) + "rows(1, L, 0, 2) = FULL; count(0) = 11; rows(1, L, 0, 1) = 1; "
                + "rows(1, L, 0, 1) = FULL; rows(1, L, 0, 0) = 0; count(0) = 12").end();
    }

    private static void texts() {
        promise(5)
            .says("The n lowest bytes (1 .. 8) of w, of these the highest first, come behind THE TAPE: how many it has.",
                "type(120, 1) = 1; type(12661, 2) = 3; type(842627391, 4) = 7; text() = 1; told(0, 0) = 1; told(0, 1) = 29; "
                + "told(0, 2) = NONE-1000000",
                "type(-136, 1) = 1; type(65585, 1) = 2; type('u2y3    ') = 10; text() = 1; told(0, 0) = 1; told(0, 2) = 3; type(376, 1) = 1")
            .says("BAD: n, a byte not 32 .. 126;", "type(120, 0) = BAD; type(120, -1) = BAD; type(120, 9) = BAD; "
                + "type(0x2020202020202020L, 9) = BAD; type(120, LEAST) = BAD; type(120, MOST) = BAD; type(31, 1) = BAD; "
                + "type(127, 1) = BAD; type(255, 1) = BAD; type(0, 1) = BAD; type(32, 1) = 1; type(126, 1) = 2; type(8223, 2) = BAD; "
                + "type(7968, 2) = BAD; type(120, 2) = BAD; type(-1, 8) = BAD; type('        ') = 10; text() = -21")
            .says("FULL: 120.", "type('" + " ".repeat(117) + "') = 117; type('xxxx') = FULL; type('xxx') = 120; type(120, 1) = FULL; "
                + "type(31, 1) = BAD; text() = -138; type('x') = 1", "type('" + " ".repeat(119) + "') = 119; type(32, 1) = 120; "
                + "type(32, 1) = FULL; text() = -140").end();
        promise(6)
            .says("THE TAPE, which is empty then, is ROWS: how many come.", "type('x1u2y3') = 6; text() = 1; type('x4u5y?;x-6u7y8') = 14; "
                + "text() = 2; count(0) = 3; count(1) = 1; told(0, 2) = 3; told(1, 0) = 4; told(1, 2) = NONE-1000000; told(2, 0) = -6; "
                + "told(2, 1) = 7; told(2, 2) = 8; text() = -20; type('x') = 1", "type('x1u1y?;x2u2y?') = 13; text() = 2; "
                + "type('x3u3y3;x4u4y4') = 13; text() = 2; count(1) = 2; told(1, 2) = NONE-1000000; told(2, 2) = 3; told(3, 2) = 4")
            .says("A FAULT (none comes).", "type('x1u2y3;x1u2z') = 12; text() = -31; count(0) = 0; type('x1u2y3') = 6; text() = 1; "
                + "type('x1u2y3;x1u2y100') = 15; text() = -32; count(0) = 1; type('z') = 1; text() = -20; text() = -20; count(0) = 1").end();
    }

    private static void rowsTold() {
        promise(7)
            .says("x (0), u (1), y (2) of a ROW.", "row(-5, 6, -7) = 0; row(8, -9, 10) = 1; told(0, 0) = -5; told(0, 1) = 6; "
                + "told(0, 2) = -7; told(1, 0) = 8; told(1, 1) = -9; told(1, 2) = 10; gap(11, -12) = 2; told(2, 0) = 11; told(2, 1) = -12")
            .says("BAD less 1000000;", "told(0, 0) = BAD-1000000; row(1, 2, 3) = 0; told(1, 0) = BAD-1000000; told(-1, 0) = BAD-1000000; "
                + "told(0, 3) = BAD-1000000; told(0, -1) = BAD-1000000; told(MOST, 0) = BAD-1000000; told(0, LEAST) = BAD-1000000; "
                + "clear() = 1; told(0, 0) = BAD-1000000",
                FULL + "told(11, 0) = 0; told(12, 0) = BAD-1000000; told(0, 3) = BAD-1000000")
            .says("NONE less that: y of a GAP.",
                "gap(1, 2) = 0; told(0, 2) = NONE-1000000; row(1, 2, 3) = 1; told(1, 2) = 3; told(0, 0) = 1").end();
        promise(8)
            .says("All ROWS go: how many.", "clear() = 0; row(4, 0, 3) = 0; gap(1, 1) = 1; row(4, 0, 99) = 2; fewest() = NONE; "
                + "clear() = 3; count(0) = 0; count(1) = 0; lets(1, -1) = BAD; fewest() = 0; clear() = 0; row(4, 0, 5) = 0; "
                + "meets(0, [3 0]) = 0; meets(0, [5 0]) = 1; fewest() = 1; row(4, 0, -5) = 1; fewest() = 2; letGo(1, 1) = 1; "
                + "together(0, 1) = 0; told(1, 2) = -5", FULL + "clear() = 12; row(1, 1, 1) = 0",
                "error(0); row(4, 0, 1); row(4, 0, 1); fewest() = 1; together(0, 1) = 2; clear() = 2; row(4, 0, 2); row(4, 0, 3); "
                + "fewest() = 2; together(0, 1) = 0; clear() = 2; gap(4, 0); row(4, 0, 99); letGo(6, 1) = 2",
                "error(7); know(3); box(4, 5); sheet(0, 0, 9); type('x9'); row(1, 2, 3); clear() = 1; count(2) = 1; error(7) = 7; "
                + "holds(1) = 5; drop(0) = 9; type('u') = 3").end();
        promise(9)
            .says("The ERROR: what it was.", "error(0) = 1; error(20) = 0; error(20) = 20; error(3) = 20; error(1) = 3",
                "row(4, 0, 6) = 0; row(4, 0, 7) = 1; meets(0, [5 0]) = 1; lets(3, -1) = 34; fewest() = 1; together(0, 1) = 2; "
                + "error(0) = 1; meets(0, [5 0]) = 0; lets(3, -1) = 0; fewest() = 2; letGo(1, 0) = 1; together(0, 1) = 0; error(1) = 0; "
                + "fewest() = 1")
            .says("BAD.", "error(-1) = BAD; error(21) = BAD; error(LEAST) = BAD; error(MOST) = BAD; error(1) = 1").end();
    }

    private static void laws() {
        promise(10)
            .says("Whether a ROW MEETS a LAW (number): 1, 0.", "row(4, 4, 1) = 0; meets(0, [1 0]) = 1; meets(0, [1 1]) = 1; "
                + "meets(0, [2 1]) = 0; meets(0, [-1 0]) = 0; meets(0, [0 0]) = 1; meets(0, [8 -8]) = 1; gap(4, 4) = 1; meets(1, 0) = 1; "
                + "meets(1, 288) = 1; meets(0, 0) = 0; meets(0, 288) = 0")
            .says("BAD.", "meets(0, 0) = BAD; gap(1, 1) = 0; meets(1, 0) = BAD; meets(-1, 0) = BAD; meets(0, -1) = BAD; "
                + "meets(0, 289) = BAD; meets(MOST, 0) = BAD; meets(0, LEAST) = BAD", FULL + "meets(11, 0) = 1; meets(12, 0) = BAD").end();
        promise(11)
            .says("How many LAWS a HEAP lets (i -1), or the i-th of them.", "lets(0, -1) = 289; lets(0, 0) = 0; lets(0, 7) = 7; "
                + "lets(0, 288) = 288",
                ENDS + "lets(1, -1) = 17; lets(1, 0) = [3 -8]; lets(1, 1) = [3 -7]; lets(1, 16) = [3 8]; lets(5, 0) = [3 -8]; "
                + "lets(3, -1) = 0; row(0, 4, -2) = 4; lets(16, 0) = [-8 -2]; lets(16, 1) = [-7 -2]; lets(17, -1) = 1; lets(17, 0) = [3 -2]")
            .says("BAD: also i below -1;", "lets(1, -1) = BAD; lets(-1, -1) = BAD; lets(0, -2) = BAD; lets(0, LEAST) = BAD; "
                + "lets(LEAST, 0) = BAD; lets(MOST, 0) = BAD; gap(1, 1) = 0; lets(1, -1) = 289; lets(2, -1) = BAD; lets(1, -2) = BAD", FULL
                + "lets(4095, -1) = 289; lets(4096, -1) = BAD")
            .says("NONE.", "lets(0, 289) = NONE; lets(0, MOST) = NONE", ENDS + "lets(1, 17) = NONE; lets(8, 0) = NONE; lets(3, 0) = NONE; "
                + "lets(3, -1) = 0").end();
        promise(12)
            .says("How many: 0 ROWS, 1 GAPS, 2 KNOWN LAWS, 3 WATCHED ROWS, 4 of these that RANG.", "row(1, 1, 1); gap(1, 1); gap(2, 2); "
                + "row(1, 1, 1); row(1, 1, 1); know(0); know(144); know(7); watch(0, 0, 0) = 7; watch(0, 0, 9) = 23; "
                + "watch(0, 0, 100) = BAD; watch(0, 0, 0) = 7; watch(0, 0, 8) = 23; count(0) = 5; count(1) = 2; count(2) = 3; "
                + "count(3) = 4; count(4) = 2; know(8) = 3; count(3) = 4; count(4) = 2; clear(); count(0) = 0; count(1) = 0; count(2) = 4; "
                + "count(3) = 4; count(4) = 2")
            .says("BAD.", "count(-1) = BAD; count(5) = BAD; count(LEAST) = BAD; count(MOST) = BAD").end();
    }

    private static void partings() {
        promise(13)
            .says("FEWEST.", "fewest() = 0; row(4, 0, 1) = 0; fewest() = 1; row(4, 0, 4) = 1; fewest() = 2; row(4, 0, 2) = 2; "
                + "fewest() = 2; row(4, 0, 7) = 3; fewest() = 3; error(2) = 1; fewest() = 2; error(20) = 2; fewest() = 1; clear() = 4; "
                + "fewest() = 0")
            .says("NONE.", ENDS + "fewest() = NONE; error(1) = 0; fewest() = 2", "error(0); row(1, 0, 0) = 0; row(1, 0, 99) = 1; "
                + "fewest() = NONE",
                "error(0); row(4, 0, 1); row(4, 0, 2); row(4, 0, 3); fewest() = 3; clear(); row(4, 0, 1); row(4, 0, 99); row(4, 0, 99); "
                + "fewest() = NONE; letGo(6, 1) = 6").end();
        promise(14)
            .says("LET GO for k LAWS (0 .. 6): how many (0), which, as bits (1).", ENDS + "letGo(0, 0) = 4; letGo(0, 1) = 15; "
                + "letGo(1, 0) = 2; letGo(1, 1) = 10; letGo(2, 0) = 1; letGo(2, 1) = 8; letGo(6, 0) = 1; letGo(6, 1) = 8; error(1) = 0; "
                + "letGo(1, 0) = 1; letGo(1, 1) = 8; letGo(2, 1) = 0",
                "error(0); row(4, 0, -8); row(4, 0, -7); row(4, 0, -6); row(4, 0, -5); row(4, 0, -4); row(4, 0, -3); row(4, 0, -2); "
                + "row(4, 0, -1); letGo(6, 0) = 2; letGo(6, 1) = 3; letGo(5, 1) = 7; letGo(4, 1) = 15; letGo(3, 1) = 31; letGo(2, 1) = 63; "
                + "letGo(1, 1) = 127; letGo(0, 1) = 255")
            .says("BAD.", ENDS + "letGo(-1, 0) = BAD; letGo(7, 0) = BAD; letGo(1, -1) = BAD; letGo(1, 2) = BAD; letGo(LEAST, 0) = BAD; "
                + "letGo(0, MOST) = BAD").end();
        promise(15)
            .says("TOGETHER: 2, 1, 0.", "error(0); row(4, 0, 3) = 0; row(4, 0, 3) = 1; row(4, 0, 4) = 2; gap(1, 1) = 3; "
                + "together(0, 1) = 2; together(1, 0) = 2; together(0, 2) = 0; together(2, 1) = 0; together(0, 3) = 1; together(3, 2) = 1; "
                + "error(1) = 0; together(0, 2) = 2; together(3, 2) = 2",
                "error(0); row(4, 0, 5); row(4, 0, 5); row(4, 0, 3); row(4, 0, 4); together(0, 1) = 2; clear(); row(4, 0, 3); "
                + "row(4, 0, 4); together(0, 1) = 0",
                "error(0); row(4, 0, 3); row(4, 0, 5); row(4, 0, 5); row(4, 0, 4); together(1, 2) = 2; clear(); row(4, 0, 3); "
                + "row(4, 0, 3); row(4, 0, 4); together(0, 1) = 2; together(1, 0) = 2")
            .says("BAD: also one ROW;", ENDS + "together(0, 0) = BAD; together(3, 3) = BAD; together(0, 4) = BAD; together(4, 0) = BAD; "
                + "together(-1, 0) = BAD; together(0, -1) = BAD; together(MOST, 0) = BAD; together(0, LEAST) = BAD",
                "together(0, 1) = BAD", FULL + "together(11, 0) = 2; together(12, 0) = BAD")
            .says("NONE: there is no PARTING.", ENDS + "together(0, 1) = NONE; together(0, 3) = NONE; error(1) = 0; together(0, 1) = 2; "
                + "together(0, 3) = 0").end();
        promise(16)
            .says("SPAN, the least (0), greatest (1).", ENDS + "span(1, 10, 2, 0) = 14; span(1, 10, 2, 1) = 46; span(2, -10, 0, 0) = -40; "
                + "span(2, -10, 0, 1) = -40; span(0, 99, 99, 0) = -1584; span(0, -99, 99, 1) = 1584; span(5, 0, 1, 0) = -8; "
                + "span(5, 0, 1, 1) = 8")
            .says("BAD less 1000000;", ENDS + "span(16, 0, 0, 0) = BAD-1000000; span(-1, 0, 0, 0) = BAD-1000000; "
                + "span(1, 100, 0, 0) = BAD-1000000; span(1, -100, 0, 0) = BAD-1000000; span(1, 0, 100, 0) = BAD-1000000; "
                + "span(1, 0, -100, 0) = BAD-1000000; span(1, 0, 0, 2) = BAD-1000000; span(1, 0, 0, -1) = BAD-1000000; "
                + "span(3, 0, 0, 2) = BAD-1000000; span(LEAST, 0, 0, 0) = BAD-1000000; span(1, 0, MOST, 0) = BAD-1000000",
                "span(1, 0, 0, 0) = BAD-1000000")
            .says("NONE less that: the HEAP is not WHOLE.", ENDS + "span(3, 1, 1, 0) = NONE-1000000; span(3, 1, 1, 1) = NONE-1000000; "
                + "span(8, 0, 0, 0) = NONE-1000000; error(1) = 0; span(3, 0, 0, 0) = 0").end();
    }

    private static void parted() {
        String places = "row(0, 0, 0); gap(1, 0); row(0, 1, 5); row(50, 50, 0); row(0, 0, 9); ";
        promise(17)
            .says("The first LINE that PARTS two HEAPS: p (0), q (1), r (2).", places + "line(1, 2, 0) = -3; line(1, 2, 1) = -3; "
                + "line(1, 2, 2) = -2; line(2, 1, 0) = 1; line(2, 1, 1) = -3; line(2, 1, 2) = 1; line(8, 7, 0) = -2; line(8, 7, 1) = 3; "
                + "line(8, 7, 2) = 4; line(0, 0, 0) = -3; line(0, 0, 1) = -3; line(0, 0, 2) = -99; line(9, 0, 0) = -3; line(9, 0, 1) = 2; "
                + "line(9, 0, 2) = -99; line(0, 1, 2) = 1; line(9, 4, 0) = 1; line(9, 4, 1) = -1; line(9, 4, 2) = 0")
            .says("BAD less 1000000: also HEAPS with a ROW in both;", places + "line(1, 1, 0) = BAD-1000000; line(3, 2, 1) = BAD-1000000; "
                + "line(17, 16, 2) = BAD-1000000; line(32, 0, 0) = BAD-1000000; line(0, 32, 0) = BAD-1000000; "
                + "line(-1, 0, 0) = BAD-1000000; line(0, -1, 0) = BAD-1000000; line(1, 2, 3) = BAD-1000000; line(1, 2, -1) = BAD-1000000; "
                + "line(LEAST, 0, 0) = BAD-1000000; line(0, MOST, 0) = BAD-1000000; line(1, 16, 3) = BAD-1000000")
            .says("NONE less that.", places + "line(1, 16, 0) = NONE-1000000; line(1, 16, 1) = NONE-1000000; "
                + "line(1, 16, 2) = NONE-1000000; line(16, 1, 0) = NONE-1000000; line(9, 6, 0) = NONE-1000000; line(9, 22, 0) = NONE-1000000").end();
        promise(18)
            .says("HOURS.", FULL + "hours(1, 2) = 2; hours(1, 4) = 3; hours(1, 64) = 4; hours(1, 528) = 5; hours(1, 560) = 6; "
                + "hours(0, 0) = 1; hours(0, 1) = 1; hours(4095, 0) = 1; hours(21, 42) = 2")
            .says("BAD;", "hours(1, 0) = BAD; hours(0, 1) = BAD; hours(-1, 0) = BAD; hours(0, -1) = BAD; hours(LEAST, 0) = BAD; "
                + "hours(0, MOST) = BAD; hours(0, 0) = 1",
                FULL + "hours(4096, 0) = BAD; hours(0, 4096) = BAD; hours(4097, 1) = BAD")
            .says("NONE.", FULL + "hours(1, 1) = NONE; hours(3, 2) = NONE; hours(1, 112) = NONE; hours(4095, 4095) = NONE").end();
    }

    private static void worn() {
        promise(19)
            .says("WEAR of a LAW by steps.", "wear(144, 1, 0) = 0; error(0); row(4, 0, 3) = 0; row(4, 0, 3) = 1; row(4, 0, 4) = 2; "
                + "wear([3 0], 1, 0) = 2; wear([3 5], 1, -1) = 2; row(4, 0, 4) = 3; wear([3 0], 1, 1) = 2; error(1) = 0; "
                + "wear([3 0], 1, 0) = 0; wear([3 0], 0, 1) = 0; wear([2 0], 1, 0) = 0; wear([4 0], 1, 0) = 2")
            .says("BAD;", "wear(-1, 1, 0) = BAD; wear(289, 1, 0) = BAD; wear(144, 0, 0) = BAD; wear(144, 2, 0) = BAD; "
                + "wear(144, -2, 0) = BAD; wear(144, 0, 2) = BAD; wear(144, 0, -2) = BAD; wear(288, 0, 0) = BAD; wear(288, 2, 0) = BAD; "
                + "wear(LEAST, 1, 0) = BAD; wear(144, MOST, 0) = BAD; wear(144, 1, LEAST) = BAD")
            .says("NOT: the LAW with steps added is none;", "wear([8 0], 1, 0) = NOT; wear([-8 0], -1, 0) = NOT; wear([0 8], 0, 1) = NOT; "
                + "wear([0 -8], 0, -1) = NOT; wear([0 8], 1, 1) = NOT; wear([8 0], 1, -1) = NOT; wear([8 0], -1, 0) = 0; "
                + "wear([8 8], -1, -1) = 0; wear([0 -8], 1, 1) = 0",
                "row(0, 0, 99); wear([8 0], 1, 0) = NOT")
            .says("NONE.", "error(0); row(4, 0, 4); row(4, 0, 3); wear([3 0], 1, 0) = NONE; wear([4 0], -1, 0) = 1; "
                + "wear([5 0], 1, 0) = NONE; wear([4 0], 1, 0) = NONE").end();
        String items = "sheet(1, L, 6); item(1, L, 1, 0) = 1; item(1, L, 2, 1) = 1; item(1, L, 3, 0) = 1; item(1, L, 4, 11) = 1; ";
        promise(20)
            .says("A told PARTING: items of a SHEET, taken as a row of a LANE, from item i on, one a ROW: numbers of HEAPS (0 .. 11): the "
                + "first HEAP that is not WHOLE.",
                ENDS + items + "check(1, L, 1) = 11; item(1, L, 2, 0) = 1; check(1, L, 1) = 0; item(1, L, 1, 7) = 1; item(1, L, 3, 7) = 1; "
                + "check(1, L, 1) = 11; item(1, L, 2, 7) = 1; check(1, L, 1) = 7; item(1, L, 4, 5) = 1; check(1, L, 1) = 5; "
                + "item(1, L, 0, 12) = 1; item(1, L, 5, 12) = 1; check(1, L, 1) = 5",
                "error(0); row(4, 0, 3); row(4, 0, 4); sheet(1, L, 2) = 2; check(1, L, 0) = 0; item(1, L, 0, 1) = 1; check(1, L, 0) = NONE")
            .says("BAD;", ENDS + items + "check(-1, L, 0) = BAD; check(4, L, 0) = BAD; check(1, -1, 0) = BAD; check(1, 3, 0) = BAD; "
                + "check(0, 3, 0) = BAD; check(MOST, L, 0) = BAD; check(1, LEAST, 0) = BAD")
            .says("NULL;", "check(1, 0, 0) = NULL; check(1, 1, -1) = NULL; row(1, 1, 1); check(3, 2, 0) = NULL")
            .says("CAST;", ENDS + "sheet(0, 0, 9); check(0, 1, 0) = CAST; check(0, 2, 99) = CAST; sheet(0, 1, 9); check(0, 0, 0) = CAST; "
                + "check(0, 2, 0) = CAST; sheet(0, 2, 9); check(0, 0, 0) = CAST; check(0, 1, 0) = CAST; check(0, 2, 0) = 0")
            .says("INDEX;", ENDS + items + "check(1, L, -1) = INDEX; check(1, L, 3) = INDEX; check(1, L, 6) = INDEX; "
                + "check(1, L, MOST) = INDEX; check(1, L, LEAST) = INDEX; item(1, L, 5, 99) = 1; check(1, L, 3) = INDEX; "
                + "item(1, L, 5, 0) = 1; check(1, L, 2) = 0; sheet(1, L, 3) = 3; check(1, L, 0) = INDEX")
            .says("NOT: one is not 0 .. 11;", ENDS + items + "item(1, L, 1, 12) = 1; check(1, L, 1) = NOT; item(1, L, 1, -1) = 1; "
                + "check(1, L, 1) = NOT; item(1, L, 1, 0) = 1; check(1, L, 1) = 11; item(1, L, 4, 12) = 1; check(1, L, 1) = NOT; "
                + "item(1, L, 4, -1) = 1; check(1, L, 1) = NOT; item(1, L, 2, 0) = 1; check(1, L, 1) = NOT")
            .says("NONE: all are.", "error(0); row(4, 0, 3); row(4, 0, 4); row(4, 0, 3); gap(1, 1); " + items + "check(1, L, 1) = NONE; "
                + "item(1, L, 4, 1) = 1; check(1, L, 1) = NONE; item(1, L, 3, 5) = 1; check(1, L, 1) = NONE; item(1, L, 3, 1) = 1; "
                + "check(1, L, 1) = 1; clear(); check(1, L, 0) = NONE; check(1, L, 6) = NONE").end();
    }

    private static void tried() {
        String one = "row(4, 0, 3); row(4, 0, 9); error(0); ";
        promise(21)
            .says("LEFT at worst.", one + "tries(1, 4, 0) = 17; tries(1, 1, 0) = 0; tries(1, 4, 1) = 1; tries(0, 0, 0) = 289; "
                + "tries(0, -99, 9) = 2; tries(0, 1, 0) = 17; tries(0, 4, 4) = 17; error(1) = 0; tries(1, 0, 0) = 51; "
                + "tries(1, 99, -9) = 2; error(20) = 1; tries(0, 99, 9) = 30")
            .says("BAD;", one + "tries(4, 0, 0) = BAD; tries(-1, 0, 0) = BAD; tries(1, 100, 0) = BAD; tries(1, -100, 0) = BAD; "
                + "tries(1, 0, 10) = BAD; tries(1, 0, -10) = BAD; tries(3, 0, 10) = BAD; tries(LEAST, 0, 0) = BAD; "
                + "tries(1, MOST, 0) = BAD; tries(1, 0, LEAST) = BAD; tries(1, 99, 9) = 1; tries(1, -99, -9) = 1")
            .says("NONE: the HEAP is not WHOLE.", one + "tries(3, 0, 0) = NONE; tries(2, 0, 0) = NONE; error(1) = 0; tries(2, 0, 0) = 17; "
                + "tries(3, 0, 0) = NONE").end();
        promise(22)
            .says("THE BEST PUSH.", one + "best(1, 1) = 0; best(1, 4) = 1; best(0, 0) = 1; error(1) = 0; best(1, 0) = 9", "row(99, 99, 0); "
                + "best(1, 4) = -5; best(1, -4) = 5; error(2); best(1, 8) = -9; best(1, -8) = 9")
            .says("BAD less 1000000;", one + "best(4, 0) = BAD-1000000; best(-1, 0) = BAD-1000000; best(1, 100) = BAD-1000000; "
                + "best(1, -100) = BAD-1000000; best(3, 100) = BAD-1000000; best(LEAST, 0) = BAD-1000000; best(1, MOST) = BAD-1000000")
            .says("NONE less that.", one + "best(3, 0) = NONE-1000000; best(2, 0) = NONE-1000000; error(1) = 0; best(3, 0) = NONE-1000000; "
                + "best(2, 0) = 9").end();
        promise(23)
            .says("The PUSH that tells two LAWS apart.", "apart([0 4], [0 0], 0) = 3; apart([4 -4], [-4 4], 1) = -1; "
                + "apart([8 0], [-8 0], 99) = 0; error(0) = 1; apart([0 4], [0 0], 0) = 1; apart([1 0], [2 0], 4) = 0; row(1, 1, 1) = 0; "
                + "apart([1 0], [2 0], 4) = 0")
            .says("BAD less 1000000;", "apart(-1, 0, 0) = BAD-1000000; apart(289, 0, 0) = BAD-1000000; apart(0, -1, 0) = BAD-1000000; "
                + "apart(0, 289, 0) = BAD-1000000; apart(0, 1, 100) = BAD-1000000; apart(0, 1, -100) = BAD-1000000; "
                + "apart(LEAST, 0, 0) = BAD-1000000; apart(0, MOST, 0) = BAD-1000000; apart(0, 1, LEAST) = BAD-1000000; "
                + "apart(0, 288, 99) = 0; apart(0, 288, -99) = 0")
            .says("NONE less that: none of -9 .. 9 does.", "error(4) = 1; apart([0 4], [0 0], 0) = 9; error(5) = 4; "
                + "apart([0 4], [0 0], 0) = NONE-1000000; apart([0 0], [4 -4], -1) = NONE-1000000; error(4) = 5; "
                + "apart([0 0], [4 -4], -1) = 8; apart([0 0], [4 -4], 1) = -8; apart([0 0], [-6 3], 1) = -9; "
                + "apart([4 4], [4 4], 9) = NONE-1000000").end();
    }

    private static void boxes() {
        promise(24)
            .says("A KNOWN LAW (all may be then): its number.", "error(0); know([4 0]) = 0; know([8 0]) = 1; watch(1, 0, 2) = 2; "
                + "know([-4 0]) = 2; watch(0, 0, 0) = 7; count(2) = 3; watch(1, 0, -1) = 4; know([0 0]) = 3; watch(0, 0, 0) = 15; "
                + "count(2) = 4; count(3) = 4; count(4) = 0; watch(1, 0, 1) = 1")
            .says("BAD;", "know(-1) = BAD; know(289) = BAD; know(LEAST) = BAD; know(MOST) = BAD; count(2) = 0; know(0) = 0; know(288) = 1")
            .says("NOT: it is known;", "know(5) = 0; know(5) = NOT; know(0) = 1; know(5) = NOT; know(0) = NOT; know(7) = 2; know(8) = 3; "
                + "know(8) = NOT; know(5) = NOT; count(2) = 4",
                "error(0); know([4 0]); know([8 0]); watch(1, 0, 2) = 2; know([4 0]) = NOT; watch(0, 0, 0) = 2")
            .says("FULL: 4.", "know(0); know(1); know(2); know(3) = 3; know(4) = FULL; know(289) = BAD; know(3) = NOT; count(2) = 4").end();
        promise(25)
            .says("The BOX is a span: 1.", "box(-5, 7) = 1; holds(0) = -5; holds(1) = 7; box(9999, 9999) = 1; holds(0) = 9999; "
                + "holds(1) = 9999; box(-9999, -9999) = 1; holds(0) = -9999; box(3, 4) = 1; know([4 0]); error(0); step(0) = 1; "
                + "holds(0) = 3; holds(1) = 4")
            .says("BAD: also from above to.", "box(1, 2) = 1; box(5, 4) = BAD; box(-10000, 0) = BAD; box(0, 10000) = BAD; "
                + "box(10000, 10000) = BAD; box(-10000, -10000) = BAD; box(LEAST, 0) = BAD; box(0, MOST) = BAD; box(MOST, LEAST) = BAD; "
                + "holds(0) = 1; holds(1) = 2; box(4, 4) = 1").end();
        promise(26)
            .says("A STEP by a PUSH (-99 .. 99): 1.", "know([4 4]); error(0); box(1, 2); step(99) = 1; holds(0) = 100; holds(1) = 101; "
                + "step(-99) = 1; holds(0) = 1; holds(1) = 2; error(2); step(0) = 1; holds(0) = -1; holds(1) = 4; know([-4 4]) = 1; "
                + "step(0) = 1; holds(0) = -6; holds(1) = 6")
            .says("BAD;", "know([4 4]); box(1, 2); step(100) = BAD; step(-100) = BAD; step(LEAST) = BAD; step(MOST) = BAD; holds(0) = 1; "
                + "holds(1) = 2", "step(100) = BAD; step(-100) = BAD")
            .says("NONE: no KNOWN LAW.",
                "box(1, 2); step(0) = NONE; step(99) = NONE; holds(0) = 1; holds(1) = 2; know(0); step(0) = 1").end();
        promise(27)
            .says("The BOX: its least (0), greatest (1) STATE.", "holds(0) = 0; holds(1) = 0; box(-3, 8) = 1; holds(0) = -3; holds(1) = 8; "
                + "box(8, 9) = 1; holds(0) = 8; holds(1) = 9")
            .says("BAD less 1000000.", "holds(-1) = BAD-1000000; holds(2) = BAD-1000000; holds(LEAST) = BAD-1000000; "
                + "holds(MOST) = BAD-1000000").end();
    }

    private static void watched() {
        String box = "know([4 4]); error(0); box(10, 12); ";
        promise(28)
            .says("BRAKE by a PUSH for n STEPS (1 .. 40) within bounds (-9999 .. 9999); the BOX stays: the first STEP.", box
                + "brake(1, 40, 0, 12) = 1; holds(0) = 10; holds(1) = 12; brake(1, 40, 0, 13) = 2; brake(-1, 40, -29, 12) = 40; "
                + "brake(1, 5, 0, 16) = 5; brake(1, 1, 12, 13) = 1; brake(1, 40, 0, 9999) = NONE; brake(-99, 40, -3949, 0) = 40; "
                + "brake(99, 40, -9999, 9998) = NONE; brake(99, 40, 0, 3971) = 40; holds(0) = 10; holds(1) = 12; step(1) = 1; "
                + "holds(0) = 11; know([8 0]); error(20); brake(99, 40, -9999, 9998) = 8; holds(1) = 13")
            .says("BAD: also low above high;", box + "brake(0, 1, 13, 12) = BAD; brake(0, 1, 12, 12) = 1; brake(100, 1, 0, 0) = BAD; "
                + "brake(-100, 1, 0, 0) = BAD; brake(0, 0, 0, 0) = BAD; brake(0, 41, 0, 0) = BAD; brake(0, -1, 0, 0) = BAD; "
                + "brake(0, 1, -10000, 0) = BAD; brake(0, 1, 0, 10000) = BAD; brake(LEAST, 1, 0, 0) = BAD; brake(0, MOST, 0, 0) = BAD; "
                + "brake(0, 1, LEAST, 0) = BAD; brake(0, 1, 0, MOST) = BAD; brake(0, 1, 10000, 10000) = BAD; "
                + "brake(0, 1, -10000, -10000) = BAD", "brake(0, 41, 0, 0) = BAD; brake(0, 1, 1, 0) = BAD")
            .says("NOT: no KNOWN LAW;", "brake(0, 1, 0, 0) = NOT; brake(0, 40, -9999, 9999) = NOT; brake(0, 1, 5, 5) = NOT; know(0); "
                + "brake(0, 1, 5, 5) = 1")
            .says("NONE: it is in time.", box + "brake(0, 40, 10, 12) = NONE; brake(1, 1, 11, 13) = NONE; brake(1, 40, 11, 52) = NONE; "
                + "brake(99, 40, -9999, 9999) = NONE").end();
        promise(29)
            .says("A WATCHED ROW: KNOWN LAWS that may be then, as bits; 16 more, if it RINGS.", "error(0); know([4 0]); know([4 4]); "
                + "know([8 4]); know([0 0]); watch(0, 0, 0) = 15; watch(1, 0, 1) = 3; watch(1, 1, 2) = 2; watch(1, 1, 3) = 20; "
                + "watch(1, 1, 0) = 24; watch(9, 9, -9) = 31; watch(1, 1, 1) = 1; count(3) = 7; count(4) = 3; count(0) = 0",
                "error(0); know([4 0]) = 0; watch(4, 0, -8) = 17; know([4 4]) = 1; watch(4, 4, -16) = 19")
            .says("BAD;", "know(0); watch(100, 0, 0) = BAD; watch(-100, 0, 0) = BAD; watch(0, 100, 0) = BAD; watch(0, -100, 0) = BAD; "
                + "watch(0, 0, 100) = BAD; watch(0, 0, -100) = BAD; watch(LEAST, 0, 0) = BAD; watch(0, MOST, 0) = BAD; "
                + "watch(0, 0, LEAST) = BAD; count(3) = 0; watch(99, -99, 0) = 1; watch(-99, 99, 0) = 1; watch(0, 0, 99) = 17; "
                + "watch(0, 0, -99) = 17", "watch(0, 100, 0) = BAD; watch(0, 0, -100) = BAD")
            .says("NOT: no KNOWN LAW.", "watch(0, 0, 0) = NOT; count(3) = 0; count(4) = 0; know(0) = 0; watch(0, 0, 0) = 1").end();
    }

    private static void sheets() {
        promise(30)
            .says("A SHEET holds a new row of a LANE: n.", "sheet(2, L, 3) = 3; item(2, L, 0, 9) = 1; item(2, L, 2, 9) = 1; "
                + "rows(2, L, 0, 1) = 1; told(0, 0) = 9; sheet(2, L, 6) = 6; rows(2, L, 0, 2) = 2; told(1, 0) = 0; told(1, 2) = 0; "
                + "told(2, 0) = 0; sheet(2, L, 0) = 0; item(2, L, 0, 1) = INDEX; sheet(2, L, 36) = 36; drop(2) = 36; drop(1) = NULL",
                "sheet(0, 0, 3) = 3; item(0, 0, 0, 1) = 1; sheet(0, 2, 4) = 4; item(0, 0, 0, 1) = CAST; item(0, 2, 3, 1) = 1; "
                + "sheet(0, 1, 5) = 5; item(0, 2, 0, 1) = CAST; drop(0) = 5")
            .says("BAD: also n above 36;", "sheet(0, 0, 9) = 9; sheet(0, 0, 37) = BAD; sheet(0, 0, MOST) = BAD; sheet(-1, 0, 1) = BAD; "
                + "sheet(4, 0, 1) = BAD; sheet(0, -1, 1) = BAD; sheet(0, 3, 1) = BAD; sheet(LEAST, 0, 1) = BAD; sheet(0, MOST, 1) = BAD; "
                + "sheet(4, 0, -1) = BAD; sheet(0, 3, -1) = BAD; drop(0) = 9")
            .says("SIZE: n below 0.", "sheet(0, 0, -1) = SIZE; drop(0) = NULL; sheet(3, 2, 9) = 9; sheet(3, 1, LEAST) = SIZE; "
                + "sheet(3, 0, -37) = SIZE; item(3, 2, 8, 1) = 1; drop(3) = 9").end();
        promise(31)
            .says("A SHEET holds nothing: how many items it had.", "sheet(0, 0, 7) = 7; sheet(1, 1, 0) = 0; sheet(2, 2, 36) = 36; "
                + "sheet(3, 0, 1) = 1; drop(2) = 36; item(2, 2, 0, 1) = NULL; rows(2, 2, 0, 0) = NULL; drop(0) = 7; drop(1) = 0; "
                + "drop(3) = 1; sheet(2, 2, 3) = 3; rows(2, 2, 0, 1) = 1; told(0, 0) = 0")
            .says("BAD;", "drop(-1) = BAD; drop(4) = BAD; drop(LEAST) = BAD; drop(MOST) = BAD")
            .says("NULL.", "drop(0) = NULL; drop(3) = NULL; sheet(1, 1, 0) = 0; drop(1) = 0; drop(1) = NULL").end();
    }

    private static void items() {
        promise(32)
            .says("Item i of a SHEET, taken as a row of a LANE, becomes v, its lowest bits: 1.", "sheet(3, L, 3) = 3; "
                + "item(3, L, 0, 7) = 1; item(3, L, 2, -99) = 1; item(3, L, 1, 99) = 1; rows(3, L, 0, 1) = 1; told(0, 0) = 7; "
                + "told(0, 1) = 99; told(0, 2) = -99; item(3, L, 1, -5) = 1; rows(3, L, 0, 1) = 1; told(1, 0) = 7; told(1, 1) = -5; "
                + "told(1, 2) = -99")
            .says("BAD;", "sheet(0, 0, 3); item(-1, 0, 0, 1) = BAD; item(4, 0, 0, 1) = BAD; item(0, -1, 0, 1) = BAD; "
                + "item(0, 3, 0, 1) = BAD; item(1, 3, 9, 1) = BAD; item(MOST, 0, 0, 1) = BAD; item(0, LEAST, 0, 1) = BAD")
            .says("NULL;", "item(0, 0, 0, 1) = NULL; item(0, 1, 99, 1) = NULL; item(3, 2, -1, 1) = NULL")
            .says("CAST;", "sheet(0, 0, 3); item(0, 1, 0, 1) = CAST; item(0, 2, 3, 1) = CAST; sheet(0, 1, 3); item(0, 0, 0, 1) = CAST; "
                + "item(0, 2, -1, 1) = CAST; sheet(0, 2, 3); item(0, 0, 0, 1) = CAST; item(0, 1, 0, 1) = CAST; rows(0, 2, 0, 1) = 1; "
                + "told(0, 0) = 0")
            .says("INDEX.", "sheet(0, L, 3) = 3; item(0, L, 3, 1) = INDEX; item(0, L, -1, 1) = INDEX; item(0, L, MOST, 1) = INDEX; "
                + "item(0, L, LEAST, 1) = INDEX; sheet(0, L, 0) = 0; item(0, L, 0, 1) = INDEX; sheet(0, L, 36) = 36; "
                + "item(0, L, 35, 1) = 1; item(0, L, 36, 1) = INDEX").end();
        lowestBits();
        String nine = "sheet(0, L, 9); item(0, L, 0, 1); item(0, L, 1, 2); item(0, L, 2, 3); item(0, L, 3, 4); item(0, L, 4, 5); item(0, "
                + "L, 5, 6); item(0, L, 6, 7); sheet(1, L, 6); ";
        promise(33)
            .says("n items of a SHEET from i on come to another one (or the same) from j on, as if all were taken ahead: n.", nine
                + "copy(0, 2, 1, 1, 4) = 4; rows(1, L, 0, 2) = 2; told(0, 0) = 0; told(0, 1) = 3; told(0, 2) = 4; told(1, 0) = 5; "
                + "told(1, 1) = 6; told(1, 2) = 0; rows(0, L, 3, 1) = 1; told(2, 0) = 4; copy(0, 0, 0, 1, 8) = 8; clear(); "
                + "rows(0, L, 0, 3) = 3; told(0, 0) = 1; told(0, 1) = 1; told(0, 2) = 2; told(1, 0) = 3; told(2, 1) = 7; told(2, 2) = 0; "
                + "copy(0, 1, 0, 0, 8) = 8; clear(); rows(0, L, 0, 3) = 3; told(0, 0) = 1; told(0, 1) = 2; told(0, 2) = 3; told(2, 0) = 7; "
                + "told(2, 1) = 0; told(2, 2) = 0; copy(0, 9, 1, 6, 0) = 0; copy(0, 0, 0, 0, 9) = 9; item(0, L, 2, 50) = 1; clear(); "
                + "rows(1, L, 0, 2) = 2; told(0, 1) = 3")
            .says("BAD;", nine + "copy(-1, 0, 0, 0, 1) = BAD; copy(4, 0, 0, 0, 1) = BAD; copy(0, 0, -1, 0, 1) = BAD; "
                + "copy(0, 0, 4, 0, 1) = BAD; copy(3, 0, 4, 0, 1) = BAD; copy(4, 0, 3, 0, 1) = BAD; copy(LEAST, 0, 0, 0, 1) = BAD; "
                + "copy(0, 0, MOST, 0, 1) = BAD")
            .says("NULL (either);", nine + "copy(3, 0, 0, 0, 1) = NULL; copy(0, 0, 3, 0, 1) = NULL; copy(3, 0, 3, 0, 0) = NULL; "
                + "copy(3, -1, 0, 99, 1) = NULL; copy(0, -1, 3, 99, 1) = NULL")
            .says("CAST: of unlike LANES;", "sheet(0, 0, 3); sheet(1, 1, 3); sheet(2, 2, 3); sheet(3, 0, 3); copy(0, 0, 1, 0, 1) = CAST; "
                + "copy(1, 0, 0, 0, 1) = CAST; copy(1, 0, 2, 0, 0) = CAST; copy(2, 0, 1, 0, 1) = CAST; copy(2, -1, 0, 9, 9) = CAST; "
                + "copy(0, 0, 2, 0, -1) = CAST; copy(0, 0, 3, 0, 3) = 3")
            .says("INDEX.", nine + "copy(0, -1, 1, 0, 1) = INDEX; copy(0, 0, 1, -1, 1) = INDEX; copy(0, 0, 1, 0, -1) = INDEX; "
                + "copy(0, 4, 1, 0, 6) = INDEX; copy(0, 3, 1, 1, 6) = INDEX; copy(0, 0, 1, 0, 7) = INDEX; copy(0, 10, 1, 0, 0) = INDEX; "
                + "copy(0, 0, 1, 7, 0) = INDEX; copy(0, MOST, 1, 0, 1) = INDEX; copy(0, 0, 1, MOST, 1) = INDEX; "
                + "copy(0, 0, 1, 0, MOST) = INDEX; copy(0, 1, 1, 1, MOST) = INDEX; copy(0, LEAST, 1, LEAST, LEAST) = INDEX; "
                + "copy(0, 3, 1, 0, 6) = 6; copy(0, 8, 1, 5, 1) = 1").end();
    }

    /** Promise 32: "its lowest bits": 8 of a byte, 16 of a short, 32 of an int, with their sign. */
    private static void lowestBits() {
        String run = "sheet(0, L, 3); item(0, L, 0, V) = 1; rows(0, L, 0, 1) = A; ";
        int[][] wants = {{0, 157, -99}, {0, 255, -1}, {0, 256, 0}, {0, 355, 99}, {0, -157, 99}, {1, 65437, -99}, {1, 65535, -1}, {1, 65536,
                0}, {1, -65437, 99}, {2, 99, 99}, {2, -99, -99}};
        for (int[] w : wants) {
            Script.run("32, lowest bits", run.replace(" L,", " " + w[0] + ",").replace("V", "" + w[1]).replace("A", "1") + "told(0, 0) = " + w[2]);
        }
        int[][] nots = {{0, 128}, {0, 127}, {0, 156}, {0, -128}, {1, 255}, {1, 157}, {1, 32768}, {1, 65436}, {2, 65535}, {2, 65536}, {2,
                157}, {2, -65437}};
        for (int[] n : nots) {
            Script.run("32, lowest bits", run.replace(" L,", " " + n[0] + ",").replace("V", "" + n[1]).replace("A;", "NOT;") + "count(0) = 0");
        }
    }
}
