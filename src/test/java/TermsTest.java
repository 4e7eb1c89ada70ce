/** The sentences of "What it is" and "Terms", each with a test of its own. */
public final class TermsTest extends Sentences {
    public static void main(String[] args) {
        lastOf512Calls();
        heapsAreNumbered();
        atMostTwelveHeaps();
        noHeapNumberTwice();
        kindForGood();
        orderForGood();
        kinds();
        ascendingWeight();
        descendingWeight();
        unsignedWeight();
        lowWeight();
        weightsPassNoLimit();
        weightsComparedWithSign();
        weightsComparedAsLongs();
        entriesAreNumbered();
        atMostHundredAndSixtyEntries();
        noEntryNumberTwice();
        anyKeyAnyValue();
        inOneHeapUntilRemoved();
        removedByTake();
        removedByTakeLast();
        removedByDelete();
        removedByClear();
        inNoHeapEverAgain();
        beforeByWeight();
        beforeByNumber();
        beforeByNumberWhereverItGoes();
        firstAndLast();
        firstAndLastOfOne();
        floorBeforeTheFirstTime();
        floorByTake();
        floorByDrain();
        floorOfTheMostLateOne();
        floorAfterClear();
        floorAfterRefusedClear();
        floorAfterDelete();
        floorKeepsOut();
        floorIsOfOneHeapAlone();
        absorbedByMeld();
        absorbedHoldsNothing();
        absorbedForGood();
        notAbsorbedByRefusedMeld();
        valuesBelowZero();
        constants();
        CHECKS.end();
    }

    private static void lastOf512Calls() {
        sentence("What it is", "An object is used for at most 512 calls after it has been made");
        MeldingHeaps x = withHeaps(MELDABLE, ASCENDING, TWO_ENDED, DESCENDING);
        for (int entry = 0; entry < MOST_ENTRIES; entry++) {
            due("insert", x.insert(0, entry, entry), entry);
        }
        int calls = 2 + MOST_ENTRIES;
        int from = 0;
        while (calls < 511) {
            due("call " + (calls + 1) + ", drain of all", x.drain(from, 1 - from, INT_MAX), 160);
            from = 1 - from;
            calls++;
        }
        due("call 512, take(" + from + ")", x.take(from), 159);
    }

    private static void heapsAreNumbered() {
        sentence("Terms", "HEAPS are numbered 0, 1, .. as they are opened");
        MeldingHeaps x = new MeldingHeaps();
        for (int heap = 0; heap < MOST_HEAPS; heap++) {
            due("open(3, 0)", x.open(3, 0), UNKNOWN);
            due("insert before it is opened", x.insert(heap, 0, 0), UNKNOWN);
            due("open", x.open(heap % KINDS, heap % ORDERS), heap);
            due("insert into the new one", x.insert(heap, 0, 0), heap);
        }
    }

    private static void atMostTwelveHeaps() {
        sentence("Terms", "at most 12 are opened");
        MeldingHeaps x = withHeaps(0, 0, 0, 0, 0, 0, 0, 0, 0, 0, 0, 0, 0, 0, 0, 0, 0, 0, 0, 0, 0, 0);
        due("open the 12th", x.open(TWO_ENDED, LOW), 11);
        due("open the 13th", x.open(TWO_ENDED, LOW), FULL);
        fill(x, 11, 0, 65535, 65536);
        due("first(11)", x.first(11), 1);
        due("last(11)", x.last(11), 0);
        due("drain(11, 10, 1)", x.drain(11, 10, 1), 1);
        due("size(11)", x.size(11), 1);
        due("size(12)", x.size(12), UNKNOWN);
        due("insert(12, ..)", x.insert(12, 0, 0), UNKNOWN);
    }

    private static void noHeapNumberTwice() {
        sentence("Terms", "at most 12 are opened, and no number is given twice");
        MeldingHeaps x = withHeaps(0, 0, 0, 0, 1, 0, 2, 0);
        fill(x, 1, 0, 1);
        fill(x, 2, 1, 1);
        due("meld(0, 1)", x.meld(0, 1), 1);
        due("clear(2)", x.clear(2), 1);
        due("drain(0, 3, 1)", x.drain(0, 3, 1), 1);
        for (int heap = 4; heap < MOST_HEAPS; heap++) {
            due("open", x.open(0, 0), heap);
            due("meld(0, new one)", x.meld(0, heap), 0);
        }
        due("open after many were absorbed", x.open(0, 0), FULL);
    }

    /** What each kind alone can do: last (else UNLIKE), a floor, meld with a new heap of its order. */
    private static void dueKind(MeldingHeaps x, int heap, int kind, int order, int empty) {
        due("last tells the kind " + kind, x.last(heap), kind == TWO_ENDED ? NONE : UNLIKE);
        due("meld tells the kind " + kind, x.meld(empty, heap), kind == MELDABLE ? 0 : UNLIKE);
        int home = kind == MELDABLE ? empty : heap;
        int entry = x.insert(home, keyOf(order, 7), 0);
        due("take", x.take(home), entry);
        due("floor tells the kind " + kind, x.floor(home), kind == MONOTONE ? 7 : MIN);
    }

    private static void kinds() {
        sentence("Terms", "KINDS: 0 MELDABLE, 1 TWO-ENDED, 2 MONOTONE");
        for (int kind = 0; kind < KINDS; kind++) {
            for (int order = 0; order < ORDERS; order++) {
                dueKind(withHeaps(kind, order, MELDABLE, order), 0, kind, order, 1);
            }
        }
    }

    private static void kindForGood() {
        sentence("Terms", "A heap has a KIND .. for good");
        for (int kind = 0; kind < KINDS; kind++) {
            for (int from = 0; from < KINDS; from++) {
                MeldingHeaps x = withHeaps(kind, ASCENDING, from, ASCENDING, MELDABLE, ASCENDING);
                fill(x, 1, 0, 1, 2, 3);
                due("drain(1, 0, 3)", x.drain(1, 0, 3), 3);
                due("drain(0, 1, 1): is refused at a floor", x.drain(0, 1, 1), from == MONOTONE ? 0 : 1);
                due("clear(0)", x.clear(0), from == MONOTONE ? 3 : 2);
                due("open", x.open(from, DESCENDING), 3);
                dueKind(x, 0, kind, ASCENDING, 2);
            }
        }
    }

    private static void orderForGood() {
        sentence("Terms", "A heap has .. an ORDER .. for good");
        for (int order = 0; order < ORDERS; order++) {
            for (int from = 0; from < ORDERS; from++) {
                MeldingHeaps x = withHeaps(TWO_ENDED, order, TWO_ENDED, from, MELDABLE, order, MELDABLE, order);
                fill(x, 1, 0, -1, 0);
                due("drain(1, 0, 2)", x.drain(1, 0, 2), 2);
                due("clear(0)", x.clear(0), 2);
                fill(x, 2, 2, -1, 0);
                due("meld(3, 2)", x.meld(3, 2), 2);
                due("first(3)", x.first(3), order == ASCENDING ? 2 : 3);
                due("drain(3, 0, 2)", x.drain(3, 0, 2), 2);
                due("first(0)", x.first(0), order == ASCENDING ? 2 : 3);
                due("last(0)", x.last(0), order == ASCENDING ? 3 : 2);
            }
        }
    }

    /** The floor that a taken key leaves is its weight. */
    private static void dueWeight(int order, long key, long weight) {
        MeldingHeaps x = withHeaps(MONOTONE, order);
        fill(x, 0, 0, key);
        due("take(0)", x.take(0), 0);
        due("the weight of " + key, x.floor(0), weight);
    }

    private static void ascendingWeight() {
        sentence("Terms", "ASCENDING: k itself");
        for (long key : new long[] {MIN, MIN + 1, -65536, -1, 0, 1, 65536, MAX - 1, MAX}) {
            dueWeight(ASCENDING, key, key);
        }
    }

    private static void descendingWeight() {
        sentence("Terms", "DESCENDING: -1 - k");
        dueWeight(DESCENDING, MIN + 1, MAX - 1);
        dueWeight(DESCENDING, -2, 1);
        dueWeight(DESCENDING, -1, 0);
        dueWeight(DESCENDING, 0, -1);
        dueWeight(DESCENDING, 1, -2);
        dueWeight(DESCENDING, 65535, -65536);
        dueWeight(DESCENDING, MAX - 1, MIN + 1);
    }

    private static void unsignedWeight() {
        sentence("Terms", "UNSIGNED: k with its highest bit (the sign) changed and all others as they are");
        dueWeight(UNSIGNED, 0, MIN);
        dueWeight(UNSIGNED, 1, MIN + 1);
        dueWeight(UNSIGNED, MAX, -1);
        dueWeight(UNSIGNED, MIN, 0);
        dueWeight(UNSIGNED, MIN + 1, 1);
        dueWeight(UNSIGNED, -1, MAX);
        dueWeight(UNSIGNED, -2, MAX - 1);
        dueWeight(UNSIGNED, 0x0123456789ABCDEFL, 0x8123456789ABCDEFL);
        dueWeight(UNSIGNED, 0xFEDCBA9876543210L, 0x7EDCBA9876543210L);
    }

    private static void lowWeight() {
        sentence("Terms", "LOW: the lowest 16 bits of k, as a number from 0 to 65535");
        dueWeight(LOW, 0, 0);
        dueWeight(LOW, 1, 1);
        dueWeight(LOW, 32767, 32767);
        dueWeight(LOW, 32768, 32768);
        dueWeight(LOW, 65535, 65535);
        dueWeight(LOW, 65536, 0);
        dueWeight(LOW, 65537, 1);
        dueWeight(LOW, 131071, 65535);
        dueWeight(LOW, -1, 65535);
        dueWeight(LOW, -65535, 1);
        dueWeight(LOW, -65536, 0);
        dueWeight(LOW, -65537, 65535);
        dueWeight(LOW, MIN, 0);
        dueWeight(LOW, MAX, 65535);
        dueWeight(LOW, 1L << 32, 0);
    }

    private static void weightsPassNoLimit() {
        sentence("Terms", "None of these passes the limits of a long");
        dueWeight(ASCENDING, MIN, MIN);
        dueWeight(ASCENDING, MAX, MAX);
        dueWeight(DESCENDING, MIN, MAX);
        dueWeight(DESCENDING, MAX, MIN);
        dueWeight(UNSIGNED, 0, MIN);
        dueWeight(UNSIGNED, -1, MAX);
    }

    /** Two entries, the later one in number first by weight; asked of all kinds. */
    private static void dueBefore(int order, long less, long greater) {
        for (int kind = 0; kind < KINDS; kind++) {
            MeldingHeaps x = withHeaps(kind, order);
            fill(x, 0, 0, greater, less);
            String pair = less + " and " + greater + " in order " + order + ", kind " + kind;
            due("first of " + pair, x.first(0), 1);
            due("before the less of " + pair, x.before(1), 0);
            due("before the greater of " + pair, x.before(0), 1);
            due("last of " + pair, x.last(0), kind == TWO_ENDED ? 0 : UNLIKE);
            takeAll(x, 0, 1, 0);
        }
    }

    private static void weightsComparedWithSign() {
        sentence("Terms", "Weights are compared as longs, with their sign");
        dueBefore(ASCENDING, -1, 0);
        dueBefore(ASCENDING, MIN, MAX);
        dueBefore(ASCENDING, MIN, 1);
        dueBefore(ASCENDING, -2, MAX);
        dueBefore(DESCENDING, 0, -1);
        dueBefore(DESCENDING, MAX, MIN);
        dueBefore(DESCENDING, MAX, -2);
        dueBefore(DESCENDING, 1, MIN);
        dueBefore(UNSIGNED, 0, -1);
        dueBefore(UNSIGNED, MAX, MIN);
        dueBefore(UNSIGNED, 0, MIN);
        dueBefore(UNSIGNED, MIN, -1);
        dueBefore(UNSIGNED, 1, 2);
        dueBefore(UNSIGNED, -2, -1);
        dueBefore(LOW, 0, -1);
        dueBefore(LOW, 32767, 32768);
        dueBefore(LOW, 65536, 1);
        dueBefore(LOW, MAX - 1, -1);
        dueBefore(LOW, MIN, 65535);
    }

    private static void weightsComparedAsLongs() {
        sentence("Terms", "Weights are compared as longs (not by one half of them)");
        long[] rising = {-1L << 32, -1, 0, 0x7FFFFFFFL, 0x80000000L, 0xFFFFFFFFL, 1L << 32, (1L << 32) + 1, 1L << 33};
        for (int i = 0; i + 1 < rising.length; i++) {
            dueBefore(ASCENDING, rising[i], rising[i + 1]);
            dueBefore(DESCENDING, rising[i + 1], rising[i]);
            if (rising[i] >= 0 || rising[i + 1] < 0) {
                dueBefore(UNSIGNED, rising[i], rising[i + 1]);
            }
        }
    }

    private static void entriesAreNumbered() {
        sentence("Terms", "ENTRIES are numbered 0, 1, .. as they are inserted");
        MeldingHeaps x = withHeaps(MELDABLE, DESCENDING, TWO_ENDED, LOW, MONOTONE, UNSIGNED);
        for (int entry = 0; entry < 30; entry++) {
            due("owner before it is inserted", x.owner(entry), UNKNOWN);
            due("insert into no heap", x.insert(3, 0, 0), UNKNOWN);
            due("insert", x.insert(entry % 3, 17 * entry % 10, entry), entry);
            due("owner", x.owner(entry), entry % 3);
        }
    }

    private static void atMostHundredAndSixtyEntries() {
        sentence("Terms", "at most 160 are inserted");
        MeldingHeaps x = withHeaps(TWO_ENDED, DESCENDING, TWO_ENDED, ASCENDING);
        for (int entry = 0; entry < 159; entry++) {
            due("insert", x.insert(entry % 2, entry, entry), entry);
        }
        due("insert the 160th", x.insert(0, MAX, INT_MIN), 159);
        due("insert the 161st", x.insert(0, MAX, 0), FULL);
        due("insert the 161st elsewhere", x.insert(1, MIN, 0), FULL);
        due("first(0)", x.first(0), 159);
        due("key(159)", x.key(159), MAX);
        due("value(159)", x.value(159), INT_MIN);
        due("owner(159)", x.owner(159), 0);
        due("before(159)", x.before(159), 0);
        due("before(0)", x.before(0), 80);
        due("size(0)", x.size(0), 81);
        due("owner(160)", x.owner(160), UNKNOWN);
        due("decrease(159, MAX)", x.decrease(159, MAX), 1);
        due("delete(159)", x.delete(159), 0);
    }

    private static void noEntryNumberTwice() {
        sentence("Terms", "at most 160 are inserted, and no number is given twice");
        MeldingHeaps x = withHeaps(TWO_ENDED, ASCENDING, MONOTONE, ASCENDING);
        for (int entry = 0; entry < MOST_ENTRIES; entry++) {
            due("insert", x.insert(0, entry, 0), entry);
            switch (entry % 4) {
                case 0 -> due("take", x.take(0), entry);
                case 1 -> due("takeLast", x.takeLast(0), entry);
                case 2 -> due("delete", x.delete(entry), 0);
                default -> due("clear", x.clear(0), 1);
            }
        }
        due("insert after 160 that were all removed", x.insert(0, 0, 0), FULL);
        due("size(0)", x.size(0), 0);
        due("owner(159)", x.owner(159), REMOVED);
    }

    private static void anyKeyAnyValue() {
        sentence("Terms", "An entry has a key (any long) and a value (any int)");
        long[] keys = {MIN, MIN + 1, -8, -1, 0, 1, 1L << 32, MAX - 1, MAX};
        int[] values = {INT_MAX, 0, 1, -1, INT_MIN, -2, INT_MIN + 1, 65536, -65536};
        for (int kind = 0; kind < KINDS; kind++) {
            for (int order = 0; order < ORDERS; order++) {
                MeldingHeaps x = withHeaps(kind, order);
                for (int i = 0; i < keys.length; i++) {
                    due("insert", x.insert(0, keys[i], values[i]), i);
                }
                for (int i = 0; i < keys.length; i++) {
                    due("key(" + i + ")", x.key(i), keys[i]);
                    due("value(" + i + ")", x.value(i), values[i]);
                }
            }
        }
    }

    private static void inOneHeapUntilRemoved() {
        sentence("Terms", "it is in one heap until it is REMOVED");
        MeldingHeaps x = withHeaps(TWO_ENDED, ASCENDING, MELDABLE, LOW, MELDABLE, LOW, MONOTONE, DESCENDING);
        fill(x, 0, 0, 4);
        dueIn(x, 0, 1, 0, 0, 0);
        due("drain(0, 1, 1)", x.drain(0, 1, 1), 1);
        dueIn(x, 1, 0, 1, 0, 0);
        due("meld(2, 1)", x.meld(2, 1), 1);
        dueIn(x, 2, 0, ABSORBED, 1, 0);
        due("drain(2, 3, 1)", x.drain(2, 3, 1), 1);
        dueIn(x, 3, 0, ABSORBED, 0, 1);
        due("delete(0)", x.delete(0), 3);
        dueIn(x, REMOVED, 0, ABSORBED, 0, 0);
    }

    private static void dueIn(MeldingHeaps x, int owner, int... sizes) {
        due("owner(0)", x.owner(0), owner);
        due("key(0)", x.key(0), owner == REMOVED ? 0 : 4);
        due("value(0)", x.value(0), owner == REMOVED ? 0 : 100);
        for (int heap = 0; heap < sizes.length; heap++) {
            due("size(" + heap + ")", x.size(heap), sizes[heap]);
        }
    }

    /** Entry 1 of three was removed from heap 0, in which entries 0 and 2 are left. */
    private static void dueRemoved(MeldingHeaps x, int left) {
        due("owner(1)", x.owner(1), REMOVED);
        due("before(1)", x.before(1), REMOVED);
        due("delete(1)", x.delete(1), REMOVED);
        due("decrease(1, MIN)", x.decrease(1, MIN), REMOVED);
        due("key(1)", x.key(1), 0);
        due("value(1)", x.value(1), 0);
        due("size(0)", x.size(0), left);
    }

    private static void removedByTake() {
        sentence("Terms", "REMOVED (by take ..)");
        for (int kind = 0; kind < KINDS; kind++) {
            MeldingHeaps x = withHeaps(kind, ASCENDING);
            fill(x, 0, 0, 5, 3, 4);
            due("take(0)", x.take(0), 1);
            dueRemoved(x, 2);
        }
    }

    private static void removedByTakeLast() {
        sentence("Terms", "REMOVED (by .. takeLast ..)");
        MeldingHeaps x = withHeaps(TWO_ENDED, ASCENDING);
        fill(x, 0, 0, 5, 6, 4);
        due("takeLast(0)", x.takeLast(0), 1);
        dueRemoved(x, 2);
    }

    private static void removedByDelete() {
        sentence("Terms", "REMOVED (by .. delete ..)");
        for (int kind = 0; kind < KINDS; kind++) {
            MeldingHeaps x = withHeaps(kind, ASCENDING);
            fill(x, 0, 0, 3, 4, 5);
            due("delete(1)", x.delete(1), 0);
            dueRemoved(x, 2);
        }
    }

    private static void removedByClear() {
        sentence("Terms", "REMOVED (by .. clear)");
        for (int kind = 0; kind < KINDS; kind++) {
            MeldingHeaps x = withHeaps(kind, ASCENDING);
            fill(x, 0, 0, 3, 4, 5);
            due("clear(0)", x.clear(0), 3);
            dueRemoved(x, 0);
        }
    }

    private static void inNoHeapEverAgain() {
        sentence("Terms", "once removed it is in no heap ever again");
        MeldingHeaps x = withHeaps(MELDABLE, ASCENDING, MELDABLE, ASCENDING, TWO_ENDED, ASCENDING);
        fill(x, 2, 0, 1, 2, 3, 4, 5);
        due("take(2)", x.take(2), 0);
        due("takeLast(2)", x.takeLast(2), 4);
        due("delete(2)", x.delete(2), 2);
        due("drain(2, 1, 9)", x.drain(2, 1, 9), 2);
        due("meld(0, 1)", x.meld(0, 1), 2);
        due("drain(0, 2, 1)", x.drain(0, 2, 1), 1);
        due("clear(2)", x.clear(2), 1);
        due("insert(2, 1, 1)", x.insert(2, 1, 1), 5);
        due("clear(2) again", x.clear(2), 1);
        for (int entry : new int[] {0, 1, 2, 4, 5}) {
            due("owner(" + entry + ")", x.owner(entry), REMOVED);
        }
        due("owner(3)", x.owner(3), 0);
        due("size(0)", x.size(0), 1);
        due("size(2)", x.size(2), 0);
    }

    private static void beforeByWeight() {
        sentence("Terms", "one is BEFORE the other if the weight of its key in the order of that heap is the less one");
        for (int order = 0; order < ORDERS; order++) {
            dueBefore(order, keyOf(order, 10), keyOf(order, 11));
            dueBefore(order, keyOf(order, 0), keyOf(order, 1));
            dueBefore(order, keyOf(order, 65534), keyOf(order, 65535));
        }
    }

    private static void beforeByNumber() {
        sentence("Terms", "or the weights are equal and its number is the less one");
        for (int kind = 0; kind < KINDS; kind++) {
            MeldingHeaps x = withHeaps(kind, ASCENDING, kind, DESCENDING, kind, UNSIGNED, kind, LOW);
            for (int heap = 0; heap < ORDERS; heap++) {
                // In the order LOW all four keys have one weight, though they are not equal.
                fill(x, heap, heap * 4, 7, heap == LOW ? -65529 : 7, heap == LOW ? MIN + 7 : 7, 7);
            }
            for (int heap = 0; heap < ORDERS; heap++) {
                int base = heap * 4;
                for (int i = 0; i < 4; i++) {
                    due("before(" + (base + i) + ")", x.before(base + i), i);
                }
                due("last(" + heap + ")", x.last(heap), kind == TWO_ENDED ? base + 3 : UNLIKE);
                takeAll(x, heap, base, base + 1, base + 2, base + 3);
            }
        }
    }

    private static void beforeByNumberWhereverItGoes() {
        sentence("Terms", "or the weights are equal and its number is the less one (after meld, drain, decrease)");
        MeldingHeaps x = withHeaps(MELDABLE, ASCENDING, MELDABLE, ASCENDING, TWO_ENDED, LOW);
        fill(x, 1, 0, 5, 5);
        fill(x, 0, 2, 5, 5);
        fill(x, 1, 4, 5, 9);
        due("meld(0, 1)", x.meld(0, 1), 6);
        for (int entry = 0; entry < 5; entry++) {
            due("before(" + entry + ")", x.before(entry), entry);
        }
        due("decrease(5, 5)", x.decrease(5, 5), 0);
        due("before(5)", x.before(5), 5);
        fill(x, 2, 6, 5, 65541);
        due("drain(0, 2, 9)", x.drain(0, 2, 9), 6);
        due("first(2)", x.first(2), 0);
        due("last(2)", x.last(2), 7);
        takeAll(x, 2, 0, 1, 2, 3, 4, 5, 6, 7);
    }

    private static void firstAndLast() {
        sentence("Terms", "The FIRST entry of a heap is the one before all others of it, the LAST is the one that all others of it are before");
        for (int order = 0; order < ORDERS; order++) {
            MeldingHeaps x = withHeaps(TWO_ENDED, order);
            long[] weights = {5, 2, 9, 2, 9, 4};
            for (int i = 0; i < weights.length; i++) {
                fill(x, 0, i, keyOf(order, weights[i]));
            }
            due("first(0)", x.first(0), 1);
            due("before(first)", x.before(1), 0);
            due("last(0)", x.last(0), 4);
            due("before(last)", x.before(4), 5);
        }
    }

    private static void firstAndLastOfOne() {
        sentence("Terms", "FIRST .. LAST (of a heap with one entry)");
        for (int order = 0; order < ORDERS; order++) {
            MeldingHeaps x = withHeaps(TWO_ENDED, order);
            fill(x, 0, 0, MIN);
            due("first(0)", x.first(0), 0);
            due("last(0)", x.last(0), 0);
            due("before(0)", x.before(0), 0);
        }
    }

    private static void floorBeforeTheFirstTime() {
        sentence("Terms", "before the first time .. it is -2^63");
        for (int order = 0; order < ORDERS; order++) {
            MeldingHeaps x = withHeaps(MONOTONE, order, MELDABLE, order);
            due("floor of a new heap", x.floor(0), MIN);
            fill(x, 0, 0, keyOf(order, 50), keyOf(order, 60));
            due("floor after insert", x.floor(0), MIN);
            due("first(0)", x.first(0), 0);
            due("floor after first", x.floor(0), MIN);
            fill(x, 1, 2, keyOf(order, 40));
            due("drain into it", x.drain(1, 0, 1), 1);
            due("floor after being drained into", x.floor(0), MIN);
            due("decrease(1, ..)", x.decrease(1, keyOf(order, 30)), 1);
            due("floor after decrease", x.floor(0), MIN);
            long lowest = order == LOW ? 0 : MIN;
            due("insert of the lowest weight", x.insert(0, keyOf(order, lowest), 0), 3);
            due("first(0)", x.first(0), 3);
        }
    }

    private static void floorByTake() {
        sentence("Terms", "a FLOOR: the weight .. of the entry that was taken from it most lately, by take");
        for (int order = 0; order < ORDERS; order++) {
            MeldingHeaps x = withHeaps(MONOTONE, order);
            fill(x, 0, 0, keyOf(order, 9), keyOf(order, 7), keyOf(order, 7));
            due("take(0)", x.take(0), 1);
            due("floor(0)", x.floor(0), 7);
            due("take(0): the same weight", x.take(0), 2);
            due("floor(0)", x.floor(0), 7);
            due("take(0)", x.take(0), 0);
            due("floor(0)", x.floor(0), 9);
        }
    }

    private static void floorByDrain() {
        sentence("Terms", "a FLOOR: the weight, in the order of this heap, of the entry .. drained out of it");
        for (int order = 0; order < ORDERS; order++) {
            for (int other = 0; other < ORDERS; other++) {
                MeldingHeaps x = withHeaps(MONOTONE, order, MONOTONE, other);
                fill(x, 0, 0, keyOf(order, 9), keyOf(order, 7), keyOf(order, 8));
                due("drain(0, 1, 2)", x.drain(0, 1, 2), 2);
                due("floor of the heap", x.floor(0), 8);
                due("floor of the other", x.floor(1), MIN);
            }
        }
    }

    private static void floorOfTheMostLateOne() {
        sentence("Terms", "the entry that was taken from it most lately, by take or by being drained out of it");
        MeldingHeaps x = withHeaps(MONOTONE, ASCENDING, MELDABLE, DESCENDING);
        fill(x, 0, 0, 1, 2, 3, 4);
        due("take(0)", x.take(0), 0);
        due("floor(0)", x.floor(0), 1);
        due("drain(0, 1, 1)", x.drain(0, 1, 1), 1);
        due("floor(0)", x.floor(0), 2);
        due("take(0)", x.take(0), 2);
        due("floor(0)", x.floor(0), 3);
        due("drain(0, 1, 1)", x.drain(0, 1, 1), 1);
        due("floor(0)", x.floor(0), 4);
        due("take(0)", x.take(0), NONE);
        due("floor(0) after NONE", x.floor(0), 4);
        due("drain(0, 1, 1)", x.drain(0, 1, 1), 0);
        due("floor(0) after a drain of nothing", x.floor(0), 4);
    }

    private static void floorAfterClear() {
        sentence("Terms", "and again after each clear that was not refused, it is -2^63");
        for (int order = 0; order < ORDERS; order++) {
            MeldingHeaps x = withHeaps(MONOTONE, order);
            for (int round = 0; round < 3; round++) {
                fill(x, 0, round * 2, keyOf(order, 8 - round), keyOf(order, 9));
                due("take(0)", x.take(0), round * 2);
                due("floor(0)", x.floor(0), 8 - round);
                due("clear(0)", x.clear(0), 1);
                due("floor after clear", x.floor(0), MIN);
            }
            fill(x, 0, 6, keyOf(order, 3));
            due("take(0)", x.take(0), 6);
            due("clear of an empty heap", x.clear(0), 0);
            due("floor after it", x.floor(0), MIN);
            due("insert below the former floor", x.insert(0, keyOf(order, 2), 0), 7);
        }
    }

    private static void floorAfterRefusedClear() {
        sentence("Terms", "after each clear that was not refused");
        MeldingHeaps x = withHeaps(MONOTONE, ASCENDING, MELDABLE, ASCENDING, MELDABLE, ASCENDING);
        fill(x, 0, 0, 8);
        due("take(0)", x.take(0), 0);
        due("meld(1, 2)", x.meld(1, 2), 0);
        due("clear(-1)", x.clear(-1), UNKNOWN);
        due("clear(3)", x.clear(3), UNKNOWN);
        due("clear(2)", x.clear(2), ABSORBED);
        due("clear of another heap", x.clear(1), 0);
        due("floor(0)", x.floor(0), 8);
    }

    private static void floorAfterDelete() {
        sentence("Terms", "Delete leaves the floor as it is");
        MeldingHeaps x = withHeaps(MONOTONE, ASCENDING);
        fill(x, 0, 0, 5, 6, 7);
        due("delete(0), the first", x.delete(0), 0);
        due("floor(0): nothing was taken yet", x.floor(0), MIN);
        due("take(0)", x.take(0), 1);
        due("delete(2), the only one", x.delete(2), 0);
        due("floor(0)", x.floor(0), 6);
        due("insert(0, 5, 0)", x.insert(0, 5, 0), BELOW);
        due("insert(0, 6, 0)", x.insert(0, 6, 0), 3);
    }

    private static void floorKeepsOut() {
        sentence("Terms", "An entry whose weight would be less than the floor can't come into the heap");
        for (int order = 0; order < ORDERS; order++) {
            MeldingHeaps x = withHeaps(MONOTONE, order, TWO_ENDED, order);
            fill(x, 0, 0, keyOf(order, 20), keyOf(order, 30));
            fill(x, 1, 2, keyOf(order, 19), keyOf(order, 20));
            due("take(0)", x.take(0), 0);
            due("insert below", x.insert(0, keyOf(order, 19), 0), BELOW);
            due("decrease below", x.decrease(1, keyOf(order, 19)), BELOW);
            due("drain below", x.drain(1, 0, 2), 0);
            due("insert at the floor", x.insert(0, keyOf(order, 20), 0), 4);
            due("decrease to the floor", x.decrease(1, keyOf(order, 20)), 1);
            due("delete(2)", x.delete(2), 1);
            due("drain at the floor", x.drain(1, 0, 2), 1);
            takeAll(x, 0, 1, 3, 4);
        }
    }

    private static void floorIsOfOneHeapAlone() {
        sentence("Terms", "A MONOTONE heap has a FLOOR (each its own)");
        MeldingHeaps x = withHeaps(MONOTONE, ASCENDING, MONOTONE, ASCENDING, MELDABLE, ASCENDING);
        fill(x, 0, 0, 5);
        fill(x, 1, 1, 9);
        fill(x, 2, 2, 7);
        due("take(1)", x.take(1), 1);
        due("floor(0)", x.floor(0), MIN);
        due("take(0)", x.take(0), 0);
        due("take(2)", x.take(2), 2);
        due("floor(0)", x.floor(0), 5);
        due("floor(1)", x.floor(1), 9);
        due("floor(2)", x.floor(2), MIN);
        due("clear(0)", x.clear(0), 0);
        due("floor(1)", x.floor(1), 9);
    }

    /** Every call that names this heap as the one it works on answers ABSORBED; floor has no refusals. */
    private static void dueAbsorbed(MeldingHeaps x, int heap, int good) {
        due("insert", x.insert(heap, 0, 0), ABSORBED);
        due("first", x.first(heap), ABSORBED);
        due("last", x.last(heap), ABSORBED);
        due("take", x.take(heap), ABSORBED);
        due("takeLast", x.takeLast(heap), ABSORBED);
        due("meld", x.meld(heap, good), ABSORBED);
        due("meld as the other", x.meld(good, heap), ABSORBED);
        due("drain", x.drain(heap, good, 1), ABSORBED);
        due("drain as the other", x.drain(good, heap, 1), ABSORBED);
        due("clear", x.clear(heap), ABSORBED);
        due("size", x.size(heap), ABSORBED);
        due("floor", x.floor(heap), MIN);
    }

    private static void absorbedByMeld() {
        sentence("Terms", "A heap is ABSORBED when it is the other of a meld that was not refused");
        for (int order = 0; order < ORDERS; order++) {
            MeldingHeaps x = withHeaps(MELDABLE, order, MELDABLE, order, MELDABLE, order);
            fill(x, 0, 0, 1);
            fill(x, 1, 1, 2);
            due("meld(1, 0)", x.meld(1, 0), 2);
            dueAbsorbed(x, 0, 1);
            due("the heap itself is not absorbed", x.size(1), 2);
            due("nor is a third one", x.size(2), 0);
        }
        MeldingHeaps x = withHeaps(MELDABLE, LOW, MELDABLE, LOW);
        due("meld of empty heaps", x.meld(0, 1), 0);
        dueAbsorbed(x, 1, 0);
        due("size(0)", x.size(0), 0);
    }

    private static void absorbedHoldsNothing() {
        sentence("Terms", "nothing is in it any more");
        MeldingHeaps x = withHeaps(MELDABLE, ASCENDING, MELDABLE, ASCENDING);
        fill(x, 1, 0, 3, 1, 2);
        due("meld(0, 1)", x.meld(0, 1), 3);
        for (int entry = 0; entry < 3; entry++) {
            due("owner(" + entry + ")", x.owner(entry), 0);
        }
        due("delete(1) answers the heap that it is in now", x.delete(1), 0);
        due("decrease(0, 2)", x.decrease(0, 2), 1);
        takeAll(x, 0, 0, 2);
    }

    private static void absorbedForGood() {
        sentence("Terms", "and it stays so for good");
        for (int order = 0; order < ORDERS; order++) {
            absorbedForGood(order);
        }
    }

    private static void absorbedForGood(int order) {
        MeldingHeaps x = withHeaps(MELDABLE, order, MELDABLE, order, MELDABLE, order, TWO_ENDED, order);
        fill(x, 0, 0, keyOf(order, 1), keyOf(order, 2));
        due("meld(1, 0)", x.meld(1, 0), 2);
        due("meld(2, 1): the absorbing one is absorbed", x.meld(2, 1), 2);
        dueAbsorbed(x, 0, 2);
        dueAbsorbed(x, 1, 2);
        due("take(2)", x.take(2), 0);
        due("drain(2, 3, 1)", x.drain(2, 3, 1), 1);
        due("clear(2)", x.clear(2), 0);
        due("clear(3)", x.clear(3), 1);
        due("open", x.open(MELDABLE, order), 4);
        due("meld(4, 2)", x.meld(4, 2), 0);
        dueAbsorbed(x, 0, 3);
        dueAbsorbed(x, 1, 4);
        dueAbsorbed(x, 2, 4);
    }

    private static void notAbsorbedByRefusedMeld() {
        sentence("Terms", "the other of a meld that was not refused");
        MeldingHeaps x = withHeaps(MELDABLE, ASCENDING, MELDABLE, LOW, TWO_ENDED, ASCENDING);
        due("meld(0, 0)", x.meld(0, 0), UNLIKE);
        due("meld(1, 0)", x.meld(1, 0), UNLIKE);
        due("meld(2, 0)", x.meld(2, 0), UNLIKE);
        due("meld(3, 0)", x.meld(3, 0), UNKNOWN);
        due("size(0)", x.size(0), 0);
        due("insert(0, 1, 1)", x.insert(0, 1, 1), 0);
        due("drain(2, 0, 1)", x.drain(2, 0, 1), 0);
        due("first(0)", x.first(0), 0);
    }

    private static void valuesBelowZero() {
        sentence("Terms", "All answers below 0 of calls that answer an int, but for those of value, are refusals or NONE");
        MeldingHeaps x = withHeaps(TWO_ENDED, ASCENDING, MONOTONE, ASCENDING);
        for (int i = 0; i < 9; i++) {
            due("insert", x.insert(0, -i, -i), i);
        }
        for (int i = 0; i < 9; i++) {
            due("value(" + i + "), which is no refusal", x.value(i), -i);
            due("owner(" + i + ")", x.owner(i), 0);
        }
        due("drain(0, 1, -5) is no refusal", x.drain(0, 1, -5), 0);
        due("take of an entry with a key and a value below 0", x.take(0), 8);
        due("decrease to a key below 0", x.decrease(7, -100), 1);
    }

    private static void constants() {
        sentence("Terms", "The constants");
        due("NONE", MeldingHeaps.NONE, NONE);
        due("UNKNOWN", MeldingHeaps.UNKNOWN, UNKNOWN);
        due("ABSORBED", MeldingHeaps.ABSORBED, ABSORBED);
        due("REMOVED", MeldingHeaps.REMOVED, REMOVED);
        due("LATER", MeldingHeaps.LATER, LATER);
        due("BELOW", MeldingHeaps.BELOW, BELOW);
        due("UNLIKE", MeldingHeaps.UNLIKE, UNLIKE);
        due("FULL", MeldingHeaps.FULL, FULL);
    }
}
