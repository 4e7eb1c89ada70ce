import java.util.List;
import java.util.function.ToLongFunction;

/** What the tests share that go by the document's sentences: its words, and small objects to begin with. */
abstract class Sentences {
    static final int NONE = -1;
    static final int UNKNOWN = -2;
    static final int ABSORBED = -3;
    static final int REMOVED = -4;
    static final int LATER = -5;
    static final int BELOW = -6;
    static final int UNLIKE = -7;
    static final int FULL = -8;

    static final int MELDABLE = 0;
    static final int TWO_ENDED = 1;
    static final int MONOTONE = 2;
    static final int KINDS = 3;

    static final int ASCENDING = 0;
    static final int DESCENDING = 1;
    static final int UNSIGNED = 2;
    static final int LOW = 3;
    static final int ORDERS = 4;

    static final long MIN = Long.MIN_VALUE;
    static final long MAX = Long.MAX_VALUE;
    static final int INT_MIN = Integer.MIN_VALUE;
    static final int INT_MAX = Integer.MAX_VALUE;

    static final int MOST_HEAPS = 12;
    static final int MOST_ENTRIES = 160;

    static final Checks CHECKS = new Checks();

    /** What follows tests this sentence. */
    static void sentence(String where, String words) {
        CHECKS.part(where + ", \"" + words + "\"");
    }

    static void due(String call, long got, long want) {
        CHECKS.due(call, got, want);
    }

    /** The call answers what is due, and no answer after it is another one than without it. */
    static void changesNothing(Scene scene, String name, ToLongFunction<MeldingHeaps> call, long want) {
        due(name, call.applyAsLong(scene.make()), want);
        List<String> without = scene.answers();
        List<String> with = scene.after(call).answers();
        CHECKS.dueText("what " + name + " changed", Scene.firstChange(without, with), "");
    }

    /** A new object with heaps of these kinds and orders: kind, order, kind, order, .. */
    static MeldingHeaps withHeaps(int... kindsAndOrders) {
        MeldingHeaps x = new MeldingHeaps();
        for (int i = 0; i < kindsAndOrders.length; i += 2) {
            due("open to begin with", x.open(kindsAndOrders[i], kindsAndOrders[i + 1]), i / 2);
        }
        return x;
    }

    /** Inserts entries with these keys and, as values, 100 and their numbers. */
    static void fill(MeldingHeaps x, int heap, int firstNumber, long... keys) {
        for (int i = 0; i < keys.length; i++) {
            due("insert to fill", x.insert(heap, keys[i], 100 + firstNumber + i), firstNumber + i);
        }
    }

    /** Takes all entries of the heap, which must be these in this order. */
    static void takeAll(MeldingHeaps x, int heap, int... entries) {
        for (int entry : entries) {
            due("take(" + heap + ")", x.take(heap), entry);
        }
        due("take(" + heap + ") at the end", x.take(heap), NONE);
    }

    /** A key of this weight; the lowest 16 bits alone count in the order LOW. */
    static long keyOf(int order, long weight) {
        switch (order) {
            case DESCENDING:
                return -1 - weight;
            case UNSIGNED:
                return weight ^ MIN;
            default:
                return weight;
        }
    }
}
