/** Counts answers that are not the ones that are due. */
final class Due {
    private static int asked = 0;
    private static int wrong = 0;

    private Due() {
    }

    static void be(String call, long want, long got) {
        asked++;
        if (got != want) {
            wrong++;
            System.out.println(call + " answered " + got + ", due is " + want);
        }
    }

    static void hold(String what, boolean holds) {
        be(what, 1, holds ? 1 : 0);
    }

    static int asked() {
        return asked;
    }

    /** To be called last in a test's main method. */
    static void end() {
        System.out.println(asked + " answers, " + wrong + " not as due");
        if (wrong != 0 || asked == 0) {
            System.exit(1);
        }
    }

    /** Types a text of any length, piece by piece; answers what the last piece answered. */
    static int typed(TwoLaws laws, String text) {
        int answer = 0;
        for (int from = 0; from < text.length(); from += 8) {
            String piece = text.substring(from, Math.min(text.length(), from + 8));
            answer = laws.type(bytes(piece), piece.length());
        }
        return answer;
    }

    static long bytes(String piece) {
        long w = 0;
        for (int i = 0; i < piece.length(); i++) {
            w = w << 8 | piece.charAt(i);
        }
        return w;
    }

    static int law(int a, int b) {
        return 17 * (a + 8) + b + 8;
    }
}
