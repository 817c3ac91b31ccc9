import java.util.ArrayList;
import java.util.IdentityHashMap;
import java.util.List;
import java.util.Map;

/** Cases of boundaries, each worked on a river of its own, with the promise and the sentence that it is of. */
abstract class Cases {
    static final int NONE = -1, BAD = -2, FULL = -4, NO_LAKE = -5, NO_CHOICE = -5, MANY_LAKES = -6;
    static final int NOTHING = -11, OUTSIDE = -12, OTHER_SORT = -13, BELOW_ZERO = -14;
    static final long NO = -4611686018427387904L;
    static final int MAX = Integer.MAX_VALUE, MIN = Integer.MIN_VALUE;
    static final int HOLD = 0, RIGHT = 1, HALF = 2, RESERVE = 3, DITCH = 4, ANCIENT = 5;

    interface Call {
        long on(RiverCompact x);
    }

    interface CallOf {
        long on(RiverCompact x, int n);
    }

    interface River {
        RiverCompact made();
    }

    /** A sentence of the document, and how many cases there are of it. */
    static final class Sentence {
        final int promise;
        final String words;
        int cases;

        Sentence(int promise, String words) {
            this.promise = promise;
            this.words = words;
        }
    }

    static final River NEW = RiverCompact::new;
    static final River RICH = Rivers::rich;

    private static final Map<River, Probe> PROBES = new IdentityHashMap<>();

    final List<Sentence> sentences = new ArrayList<>();
    private final Check check;

    Cases(Check check) {
        this.check = check;
    }

    /** Works all cases. */
    abstract void work();

    /** The cases that follow are of this sentence. */
    final void says(int promise, String words) {
        sentences.add(new Sentence(promise, words));
        check.part("promise " + promise + ", \"" + words + "\"");
    }

    /** One case: what was answered, and what is due. */
    final void due(String name, long got, long want) {
        sentences.get(sentences.size() - 1).cases++;
        check.due(name, got, want);
    }

    /** One case: a call on a rich river is not refused, and what another call answers then. */
    final void taken(String name, Call call, long want, Call then, long wantThen) {
        takenOn(RICH, name, call, want, then, wantThen);
    }

    final void takenOn(River river, String name, Call call, long want, Call then, long wantThen) {
        RiverCompact x = river.made();
        due(name, call.on(x), want);
        due(name + ", and then", then.on(x), wantThen);
    }

    /** One case: a call on a rich river is refused and leaves all as it was. */
    final void refused(String name, Call call, long want) {
        refusedOn(RICH, name, call, want);
    }

    final void refusedOn(River river, String name, Call call, long want) {
        due(name, leavesAll(river, name, call), want);
    }

    /** What a call answers; that it leaves all as it was is a case by itself. */
    final long leavesAll(River river, String name, Call call) {
        RiverCompact x = river.made();
        long got = call.on(x);
        String unlike = probeOf(river).unlike(new Probe(x));
        due(name + " leaves all as it was: " + unlike, unlike.length(), 0);
        return got;
    }

    private static Probe probeOf(River river) {
        Probe probe = PROBES.get(river);
        if (probe == null) {
            probe = new Probe(river.made());
            PROBES.put(river, probe);
        }
        return probe;
    }

    /** Four cases: the numbers next to least and most, and the ends of int, are refused. */
    final void outside(String name, int least, int most, CallOf call, long want) {
        outsideOn(RICH, name, least, most, call, want);
    }

    final void outsideOn(River river, String name, int least, int most, CallOf call, long want) {
        int[] numbers = {least - 1, most + 1, MIN, MAX};
        for (int n : numbers) {
            refusedOn(river, name + " " + n, x -> call.on(x, n), want);
        }
    }

    /** A text by itself: its number, or its fault. */
    static int text(String words) {
        return Rivers.text(new RiverCompact(), words);
    }

    /** One case: there is no fault in a text. */
    final void stands(String words) {
        due("'" + words + "' stands", text(words), 1);
    }

    /** One case: where the fault of a text is. */
    final void fault(String words, int place) {
        due("fault of '" + words + "'", text(words), -100 - place);
    }
}
