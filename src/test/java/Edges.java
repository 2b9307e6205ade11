import java.util.List;
import java.util.function.Supplier;

/** Ways to look at an edge: what is taken, what is refused, and that a refused call changes nothing. */
final class Edges {
    static final int LEAST = Integer.MIN_VALUE;
    static final int MOST = Integer.MAX_VALUE;
    /** BAD and NONE of calls that answer numbers of both signs. */
    static final int BAD_BELOW = -1000001;
    static final int NONE_BELOW = -1000004;

    private Edges() {
    }

    /** A call on an object. */
    interface Call {
        int on(TwoLaws t);
    }

    /** A call with one number of it left open. */
    interface OpenCall {
        int on(TwoLaws t, int v);
    }

    static void taken(String name, int want, Supplier<TwoLaws> made, Call call) {
        Due.be(name, want, call.on(made.get()));
    }

    static void refused(String name, int want, Supplier<TwoLaws> made, Call call) {
        Due.hold(name + ": " + want + " is a refusal", want < 0);
        changesNothing(name, want, made, call);
    }

    /** The call answers want, and all that later calls show is as without it. */
    static void changesNothing(String name, int want, Supplier<TwoLaws> made, Call call) {
        TwoLaws touched = made.get();
        Due.be(name, want, call.on(touched));
        sameTrace(name, made.get(), touched);
    }

    static void sameTrace(String name, TwoLaws expected, TwoLaws touched) {
        List<Integer> want = Trace.of(expected);
        List<Integer> got = Trace.of(touched);
        Due.hold(name + ": later calls show " + got + ", due is " + want, want.equals(got));
    }

    /** Refused on an object that has nothing, one that has some of all, and a full one. */
    static void refusedAlways(String name, int want, Call call) {
        refused(name + ", fresh", want, Works::fresh, call);
        refused(name + ", lived", want, Works::lived, call);
        refused(name + ", full", want, Works::full, call);
    }

    /** A number of low .. high: both are taken; the next ones outside and the farthest ones are refused. */
    static void between(String name, int low, int high, int refusal, Supplier<TwoLaws> made, OpenCall call) {
        for (int v : new int[] {low, high}) {
            Due.hold(name + " takes " + v, call.on(made.get(), v) != refusal);
        }
        refusedOutside(name, low, high, refusal, made, call);
    }

    static void refusedOutside(String name, int low, int high, int refusal, Supplier<TwoLaws> made, OpenCall call) {
        for (int v : new int[] {low - 1, high + 1, LEAST, MOST}) {
            refused(name + " refuses " + v, refusal, made, t -> call.on(t, v));
        }
    }
}
