import java.util.ArrayList;
import java.util.List;

/** All that later calls show of an object; the object is used up by it. */
final class Trace {
    /** With some 100 calls ahead an object stays within its 512. */
    private static final int MOST_ANSWERS = 400;

    private final TwoLaws t;
    private final List<Integer> answers = new ArrayList<>();

    private Trace(TwoLaws t) {
        this.t = t;
    }

    static List<Integer> of(TwoLaws t) {
        Trace trace = new Trace(t);
        trace.counts();
        trace.rows();
        trace.heaps();
        trace.error();
        trace.known();
        for (int s = 0; s < 4; s++) {
            trace.sheet(s);
        }
        trace.tape();
        Due.hold("a trace of " + trace.answers.size() + " answers is not too long", trace.answers.size() <= MOST_ANSWERS);
        return trace.answers;
    }

    private void saw(int answer) {
        answers.add(answer);
    }

    private void counts() {
        for (int what = 0; what <= 4; what++) {
            saw(t.count(what));
        }
        saw(t.holds(0));
        saw(t.holds(1));
    }

    private void rows() {
        for (int k = 0; k < 3 * t.count(0); k++) {
            saw(t.told(k / 3, k % 3));
        }
    }

    private void heaps() {
        saw(t.fewest());
        saw(t.letGo(1, 1));
        saw(t.letGo(2, 1));
        for (int r = 0; r < t.count(0); r++) {
            saw(t.lets(1 << r, -1));
            saw(t.together(0, r));
        }
    }

    private void error() {
        int was = t.error(0);
        saw(was);
        saw(t.error(was));
    }

    /** Which laws may be; then with an error of 0 each known law's parts, one part a row. */
    private void known() {
        saw(t.watch(0, 0, 0));
        t.error(0);
        for (int part = -8; part <= 8; part++) {
            saw(t.watch(4, 0, part));
            saw(t.watch(0, 4, part));
        }
    }

    private void sheet(int s) {
        for (int lane = 0; lane < 3; lane++) {
            saw(t.rows(s, lane, 0, 0));
            if (t.rows(s, lane, 0, 0) == 0) {
                items(s, lane);
            }
        }
        saw(t.drop(s));
    }

    /** Items are shown in threes alone, as rows. */
    private void items(int s, int lane) {
        t.clear();
        for (int i = 0; i < 36; i += 3) {
            saw(t.rows(s, lane, i, 1));
        }
        rows();
    }

    private void tape() {
        t.clear();
        saw(t.type(' ', 1));
        saw(t.text());
        rows();
    }
}
