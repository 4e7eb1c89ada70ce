import java.util.function.ToLongFunction;

/**
 * "A call that is refused, or answers NONE, changes nothing. If several of the refusals that a call
 * names fit, the one that is named first is the answer." Each refusal that a promise names has a test
 * of its own here, with a look at everything that could have changed.
 */
public final class RefusalsTest extends Sentences {
    // The heaps of the scene.
    private static final int FILLED_MELDABLE = 0;
    private static final int ABSORBED_LATE = 1;
    private static final int FILLED_TWO_ENDED = 2;
    private static final int FILLED_MONOTONE = 3;
    private static final int EMPTY_MELDABLE = 4;
    private static final int EMPTY_TWO_ENDED = 5;
    private static final int EMPTY_MONOTONE = 6;
    private static final int DESCENDING_MELDABLE = 7;
    private static final int ABSORBED_EARLY = 8;
    private static final int NEXT_HEAP = 9;

    // Entries of the scene that were removed, each in another way, and the next one to come.
    private static final int TAKEN = 0;
    private static final int TAKEN_LAST = 1;
    private static final int DELETED = 2;
    private static final int CLEARED = 3;
    private static final int TAKEN_MONOTONE = 12;
    private static final int[] REMOVED_ENTRIES = {TAKEN, TAKEN_LAST, DELETED, CLEARED, TAKEN_MONOTONE};
    private static final int NEXT_ENTRY = 16;

    private static final int[] GOOD_HEAPS = {
        FILLED_MELDABLE, FILLED_TWO_ENDED, FILLED_MONOTONE,
        EMPTY_MELDABLE, EMPTY_TWO_ENDED, EMPTY_MONOTONE, DESCENDING_MELDABLE,
    };
    private static final int[] ABSORBED_HEAPS = {ABSORBED_LATE, ABSORBED_EARLY};
    private static final int[] NO_HEAPS = {
        INT_MIN, INT_MIN + 1, -65536, -12, -8, -7, -6, -5, -4, -3, -2, -1,
        NEXT_HEAP, 10, 11, 12, 13, 256, 65536, INT_MAX - 1, INT_MAX,
    };
    private static final int[] NO_ENTRIES = {
        INT_MIN, INT_MIN + 1, -65536, -160, -8, -7, -6, -5, -4, -3, -2, -1,
        NEXT_ENTRY, 17, 159, 160, 161, 256, 65536, INT_MAX - 1, INT_MAX,
    };
    private static final int[] COUNTS = {INT_MIN, -1, 0, 1, 2, INT_MAX};

    private static final Scene NEW = new Scene(x -> { });
    private static final Scene MIXED = new Scene(RefusalsTest::mix);
    private static final Scene ALL_HEAPS = MIXED.then(RefusalsTest::openAll);
    private static final Scene ALL_ENTRIES = MIXED.then(RefusalsTest::insertAll);
    private static final Scene ALL_OF_BOTH = ALL_HEAPS.then(RefusalsTest::insertAll);

    public static void main(String[] args) {
        theSceneItself();
        promise1NothingIsThere();
        promise2Unknown();
        promise2Full();
        promise2UnknownBeforeFull();
        promise3Unknown();
        promise3Absorbed();
        promise3Below();
        promise3BelowInEveryOrder();
        promise3Full();
        promise3FirstNamed();
        promise4();
        promise5();
        promise6();
        promise7();
        promise8Unknown();
        promise8Removed();
        promise8Later();
        promise8LaterAtTheLimits();
        promise8Below();
        promise8LaterNamedBeforeBelow();
        promise9();
        promise10HeapFirst();
        promise10Other();
        promise10SameHeap();
        promise10NotMeldable();
        promise10OtherOrders();
        promise11HeapFirst();
        promise11Other();
        promise11SameHeap();
        promise11NothingGoesOver();
        promise12();
        promise13();
        promise14();
        promise15And16();
        promise17();
        promise18();
        CHECKS.end();
    }

    /** Some of everything: entries 0 to 3 and 12 are removed, 4 to 11 and 13 to 15 are not. */
    private static void mix(MeldingHeaps x) {
        x.open(MELDABLE, ASCENDING);
        x.open(MELDABLE, ASCENDING);
        x.open(TWO_ENDED, DESCENDING);
        x.open(MONOTONE, UNSIGNED);
        x.open(MELDABLE, ASCENDING);
        x.open(TWO_ENDED, LOW);
        x.open(MONOTONE, ASCENDING);
        x.open(MELDABLE, DESCENDING);
        x.open(MELDABLE, ASCENDING);
        x.insert(EMPTY_TWO_ENDED, 1, -1);
        x.insert(EMPTY_TWO_ENDED, 3, -2);
        x.insert(EMPTY_TWO_ENDED, 2, -3);
        x.insert(EMPTY_TWO_ENDED, 2, -4);
        x.take(EMPTY_TWO_ENDED);
        x.takeLast(EMPTY_TWO_ENDED);
        x.delete(DELETED);
        x.clear(EMPTY_TWO_ENDED);
        x.insert(FILLED_MELDABLE, 20, 4);
        x.insert(ABSORBED_LATE, 10, 5);
        x.insert(ABSORBED_EARLY, 10, 6);
        x.insert(ABSORBED_EARLY, 30, 7);
        x.meld(ABSORBED_LATE, ABSORBED_EARLY);
        x.meld(FILLED_MELDABLE, ABSORBED_LATE);
        x.insert(FILLED_TWO_ENDED, 5, 8);
        x.insert(FILLED_TWO_ENDED, 7, 9);
        x.insert(FILLED_TWO_ENDED, 6, 10);
        x.insert(DESCENDING_MELDABLE, 1, 11);
        x.insert(FILLED_MONOTONE, 9, 12);
        x.insert(FILLED_MONOTONE, -1, 13);
        x.insert(FILLED_MONOTONE, 15, 14);
        x.take(FILLED_MONOTONE);
        x.insert(EMPTY_MONOTONE, 25, 15);
        x.drain(EMPTY_MONOTONE, FILLED_MONOTONE, 1);
    }

    private static void openAll(MeldingHeaps x) {
        for (int heap = NEXT_HEAP; heap < MOST_HEAPS; heap++) {
            x.open(heap % KINDS, heap % ORDERS);
        }
    }

    private static void insertAll(MeldingHeaps x) {
        for (int entry = NEXT_ENTRY; entry < MOST_ENTRIES; entry++) {
            x.insert(FILLED_MELDABLE, entry % 40, -entry);
        }
    }

    private static void theSceneItself() {
        CHECKS.part("the scene of these tests");
        MeldingHeaps x = MIXED.make();
        int[] sizes = {4, ABSORBED, 3, 3, 0, 0, 0, 1, ABSORBED};
        for (int heap = 0; heap < sizes.length; heap++) {
            due("size(" + heap + ")", x.size(heap), sizes[heap]);
        }
        for (int entry : REMOVED_ENTRIES) {
            due("owner(" + entry + ")", x.owner(entry), REMOVED);
        }
        due("floor of the filled MONOTONE heap", x.floor(FILLED_MONOTONE), MIN + 9);
        due("floor of the empty MONOTONE heap", x.floor(EMPTY_MONOTONE), 25);
        due("the next heap", x.open(0, 0), NEXT_HEAP);
        due("the next entry", x.insert(NEXT_HEAP, 0, 0), NEXT_ENTRY);
        due("all heaps", ALL_HEAPS.make().open(0, 0), FULL);
        due("all entries", ALL_ENTRIES.make().insert(0, 0, 0), FULL);
        due("the last entry", ALL_ENTRIES.make().value(159), -159);
    }

    private static void promise1NothingIsThere() {
        sentence("promise 1", "No heaps and no entries");
        for (int number : new int[] {0, 1, 11, 12, 159, -1}) {
            refused(NEW, "insert", number, x -> x.insert(number, 0, 0), UNKNOWN);
            refused(NEW, "first", number, x -> x.first(number), UNKNOWN);
            refused(NEW, "last", number, x -> x.last(number), UNKNOWN);
            refused(NEW, "take", number, x -> x.take(number), UNKNOWN);
            refused(NEW, "takeLast", number, x -> x.takeLast(number), UNKNOWN);
            refused(NEW, "decrease", number, x -> x.decrease(number, 0), UNKNOWN);
            refused(NEW, "delete", number, x -> x.delete(number), UNKNOWN);
            refused(NEW, "meld", number, x -> x.meld(number, number), UNKNOWN);
            refused(NEW, "drain", number, x -> x.drain(number, number, 0), UNKNOWN);
            refused(NEW, "clear", number, x -> x.clear(number), UNKNOWN);
            refused(NEW, "size", number, x -> x.size(number), UNKNOWN);
            refused(NEW, "floor", number, x -> x.floor(number), MIN);
            refused(NEW, "key", number, x -> x.key(number), 0);
            refused(NEW, "value", number, x -> x.value(number), 0);
            refused(NEW, "owner", number, x -> x.owner(number), UNKNOWN);
            refused(NEW, "before", number, x -> x.before(number), UNKNOWN);
        }
    }

    private static void refused(Scene scene, String name, int number, ToLongFunction<MeldingHeaps> call, long want) {
        changesNothing(scene, name + " of " + number, call, want);
    }

    private static void promise2Unknown() {
        sentence("promise 2", "UNKNOWN when the kind is not 0 .. 2 or the order not 0 .. 3");
        openUnknown(MIXED);
        openUnknown(NEW);
    }

    private static void openUnknown(Scene scene) {
        for (int wrong : new int[] {INT_MIN, -65536, -2, -1, 4, 5, 256, 65536, INT_MAX}) {
            for (int kind = 0; kind < KINDS; kind++) {
                refused(scene, "open, order", wrong, openCall(kind, wrong), UNKNOWN);
            }
            for (int order = 0; order < ORDERS; order++) {
                refused(scene, "open, kind", wrong, openCall(wrong, order), UNKNOWN);
            }
            refused(scene, "open, both", wrong, openCall(wrong, wrong), UNKNOWN);
        }
        // 3 is an order but not a kind.
        for (int order = -1; order <= ORDERS; order++) {
            refused(scene, "open, kind 3, order", order, openCall(3, order), UNKNOWN);
        }
    }

    private static ToLongFunction<MeldingHeaps> openCall(int kind, int order) {
        return x -> x.open(kind, order);
    }

    private static void promise2Full() {
        sentence("promise 2", "FULL when 12 were opened");
        for (int kind = 0; kind < KINDS; kind++) {
            for (int order = 0; order < ORDERS; order++) {
                refused(ALL_HEAPS, "open(" + kind + ", ..), order", order, openCall(kind, order), FULL);
            }
        }
        refused(ALL_OF_BOTH, "open when all entries are inserted too", 0, openCall(0, 0), FULL);
    }

    private static void promise2UnknownBeforeFull() {
        sentence("promise 2", "UNKNOWN ..; FULL .. (the one that is named first)");
        openUnknown(ALL_HEAPS);
    }

    private static void promise3Unknown() {
        sentence("promise 3", "UNKNOWN");
        for (int number : NO_HEAPS) {
            refused(MIXED, "insert", number, x -> x.insert(number, 5, 5), UNKNOWN);
        }
        refused(ALL_HEAPS, "insert", 12, x -> x.insert(12, 5, 5), UNKNOWN);
    }

    private static void promise3Absorbed() {
        sentence("promise 3", "ABSORBED");
        for (int heap : ABSORBED_HEAPS) {
            refused(MIXED, "insert", heap, x -> x.insert(heap, 5, 5), ABSORBED);
            refused(MIXED, "insert of the least key", heap, x -> x.insert(heap, MIN, 5), ABSORBED);
        }
    }

    private static void promise3Below() {
        sentence("promise 3", "BELOW when the heap is MONOTONE and the weight of the key in its order is less than its floor");
        refused(MIXED, "insert, key 24", EMPTY_MONOTONE, x -> x.insert(EMPTY_MONOTONE, 24, 5), BELOW);
        refused(MIXED, "insert, key MIN", EMPTY_MONOTONE, x -> x.insert(EMPTY_MONOTONE, MIN, 5), BELOW);
        refused(MIXED, "insert, key 8", FILLED_MONOTONE, x -> x.insert(FILLED_MONOTONE, 8, 5), BELOW);
        refused(MIXED, "insert, key 0", FILLED_MONOTONE, x -> x.insert(FILLED_MONOTONE, 0, 5), BELOW);
        due("insert at the floor", MIXED.make().insert(EMPTY_MONOTONE, 25, 5), NEXT_ENTRY);
        due("insert at the floor, UNSIGNED", MIXED.make().insert(FILLED_MONOTONE, 9, 5), NEXT_ENTRY);
        due("insert far above the floor, UNSIGNED", MIXED.make().insert(FILLED_MONOTONE, -1, 5), NEXT_ENTRY);
    }

    private static void promise3BelowInEveryOrder() {
        sentence("promise 3", "the weight of the key in its order is less than its floor");
        long[][] weights = {{MIN + 1, 0, MAX}, {MIN + 1, 0, MAX}, {MIN + 1, 0, MAX}, {1, 32768, 65535}};
        for (int order = 0; order < ORDERS; order++) {
            for (long weight : weights[order]) {
                long at = keyOf(order, weight);
                long below = keyOf(order, weight - 1);
                Scene scene = withFloor(order, at);
                changesNothing(scene, "insert one below the floor " + weight, x -> x.insert(0, below, 0), BELOW);
                due("insert at the floor " + weight, scene.make().insert(0, at, 0), 1);
            }
        }
        Scene top = withFloor(LOW, 65535);
        changesNothing(top, "insert of 65536, whose weight is 0", x -> x.insert(0, 65536, 0), BELOW);
        due("insert of -1, whose weight is 65535", top.make().insert(0, -1, 0), 1);
    }

    private static Scene withFloor(int order, long key) {
        return new Scene(x -> {
            x.open(MONOTONE, order);
            x.insert(0, key, 0);
            x.take(0);
        });
    }

    private static void promise3Full() {
        sentence("promise 3", "FULL when 160 were inserted");
        for (int heap : GOOD_HEAPS) {
            // Both MONOTONE heaps let this key in, so that FULL alone fits.
            refused(ALL_ENTRIES, "insert", heap, x -> x.insert(heap, 26, 5), FULL);
        }
        refused(ALL_OF_BOTH, "insert", 11, x -> x.insert(11, MAX, 5), FULL);
    }

    private static void promise3FirstNamed() {
        sentence("promise 3", "UNKNOWN; ABSORBED; BELOW ..; FULL .. (the one that is named first)");
        for (int number : NO_HEAPS) {
            refused(ALL_ENTRIES, "insert", number, x -> x.insert(number, 5, 5), UNKNOWN);
        }
        for (int heap : ABSORBED_HEAPS) {
            refused(ALL_ENTRIES, "insert", heap, x -> x.insert(heap, 5, 5), ABSORBED);
        }
        refused(ALL_ENTRIES, "insert, key 24", EMPTY_MONOTONE, x -> x.insert(EMPTY_MONOTONE, 24, 5), BELOW);
        refused(ALL_ENTRIES, "insert, key 25", EMPTY_MONOTONE, x -> x.insert(EMPTY_MONOTONE, 25, 5), FULL);
        refused(ALL_ENTRIES, "insert, key 8", FILLED_MONOTONE, x -> x.insert(FILLED_MONOTONE, 8, 5), BELOW);
        refused(ALL_ENTRIES, "insert, key 9", FILLED_MONOTONE, x -> x.insert(FILLED_MONOTONE, 9, 5), FULL);
    }

    private interface HeapCall {
        long on(MeldingHeaps x, int heap);
    }

    private interface PairCall {
        long on(MeldingHeaps x, int heap, int other);
    }

    private static void heapRefusals(String promise, String name, HeapCall call) {
        sentence(promise, "UNKNOWN");
        for (int number : NO_HEAPS) {
            refused(MIXED, name, number, x -> call.on(x, number), UNKNOWN);
        }
        refused(ALL_OF_BOTH, name, MOST_HEAPS, x -> call.on(x, MOST_HEAPS), UNKNOWN);
        sentence(promise, "ABSORBED");
        for (int heap : ABSORBED_HEAPS) {
            refused(MIXED, name, heap, x -> call.on(x, heap), ABSORBED);
            refused(ALL_OF_BOTH, name, heap, x -> call.on(x, heap), ABSORBED);
        }
    }

    private static void noneOf(String promise, String name, HeapCall call, int... heaps) {
        sentence(promise, "NONE when it is empty");
        for (int heap : heaps) {
            refused(MIXED, name, heap, x -> call.on(x, heap), NONE);
        }
    }

    /** An absorbed heap is no TWO-ENDED one either, and an empty one may be of another kind. */
    private static void unlikeOf(String promise, String name, HeapCall call) {
        sentence(promise, "UNLIKE when the heap is not TWO-ENDED");
        refused(MIXED, name, FILLED_MELDABLE, x -> call.on(x, FILLED_MELDABLE), UNLIKE);
        refused(MIXED, name, FILLED_MONOTONE, x -> call.on(x, FILLED_MONOTONE), UNLIKE);
        sentence(promise, "UNLIKE ..; NONE .. (the one that is named first)");
        refused(MIXED, name, EMPTY_MELDABLE, x -> call.on(x, EMPTY_MELDABLE), UNLIKE);
        refused(MIXED, name, EMPTY_MONOTONE, x -> call.on(x, EMPTY_MONOTONE), UNLIKE);
    }

    private static void promise4() {
        heapRefusals("promise 4", "first", MeldingHeaps::first);
        noneOf("promise 4", "first", MeldingHeaps::first, EMPTY_MELDABLE, EMPTY_TWO_ENDED, EMPTY_MONOTONE);
        sentence("promise 4", "which stays there");
        refused(MIXED, "first", FILLED_MELDABLE, x -> x.first(FILLED_MELDABLE), 5);
        refused(MIXED, "first", FILLED_TWO_ENDED, x -> x.first(FILLED_TWO_ENDED), 9);
        refused(MIXED, "first", FILLED_MONOTONE, x -> x.first(FILLED_MONOTONE), 14);
    }

    private static void promise5() {
        heapRefusals("promise 5", "last", MeldingHeaps::last);
        unlikeOf("promise 5", "last", MeldingHeaps::last);
        noneOf("promise 5", "last", MeldingHeaps::last, EMPTY_TWO_ENDED);
        sentence("promise 5", "which stays there");
        refused(MIXED, "last", FILLED_TWO_ENDED, x -> x.last(FILLED_TWO_ENDED), 8);
    }

    private static void promise6() {
        heapRefusals("promise 6", "take", MeldingHeaps::take);
        noneOf("promise 6", "take", MeldingHeaps::take, EMPTY_MELDABLE, EMPTY_TWO_ENDED, EMPTY_MONOTONE);
    }

    private static void promise7() {
        heapRefusals("promise 7", "takeLast", MeldingHeaps::takeLast);
        unlikeOf("promise 7", "takeLast", MeldingHeaps::takeLast);
        noneOf("promise 7", "takeLast", MeldingHeaps::takeLast, EMPTY_TWO_ENDED);
    }

    private static void promise8Unknown() {
        sentence("promise 8", "UNKNOWN");
        for (int number : NO_ENTRIES) {
            for (long key : new long[] {MIN, 0, MAX}) {
                refused(MIXED, "decrease", number, x -> x.decrease(number, key), UNKNOWN);
            }
        }
        refused(ALL_OF_BOTH, "decrease", MOST_ENTRIES, x -> x.decrease(MOST_ENTRIES, MIN), UNKNOWN);
    }

    private static void promise8Removed() {
        sentence("promise 8", "REMOVED (which is named before LATER and BELOW)");
        for (int entry : REMOVED_ENTRIES) {
            // Less, equal and greater weights than those of the keys that they had.
            for (long key : new long[] {MIN, 0, 2, 9, 10, MAX}) {
                refused(MIXED, "decrease", entry, x -> x.decrease(entry, key), REMOVED);
            }
        }
    }

    private static void promise8Later() {
        sentence("promise 8", "LATER when the weight of this key in the order of the heap that it is in is greater");
        refused(MIXED, "decrease to 21", 4, x -> x.decrease(4, 21), LATER);
        refused(MIXED, "decrease to 11, after two melds", 6, x -> x.decrease(6, 11), LATER);
        refused(MIXED, "decrease to MAX", 7, x -> x.decrease(7, MAX), LATER);
        refused(MIXED, "decrease to 6, DESCENDING", 9, x -> x.decrease(9, 6), LATER);
        refused(MIXED, "decrease to MIN, DESCENDING", 9, x -> x.decrease(9, MIN), LATER);
        refused(MIXED, "decrease to 16, UNSIGNED", 14, x -> x.decrease(14, 16), LATER);
        refused(MIXED, "decrease to MIN, UNSIGNED", 14, x -> x.decrease(14, MIN), LATER);
        refused(MIXED, "decrease to -1 after a drain into UNSIGNED", 15, x -> x.decrease(15, -1), LATER);
        refused(MIXED, "decrease to 26 after a drain", 15, x -> x.decrease(15, 26), LATER);
    }

    private static void promise8LaterAtTheLimits() {
        sentence("promise 8", "LATER when the weight of this key .. is greater than that of the key it has");
        long[][] weights = {{MIN, -1, MAX - 1}, {MIN, -1, MAX - 1}, {MIN, -1, MAX - 1}, {0, 32767, 65534}};
        for (int kind = 0; kind < KINDS; kind++) {
            for (int order = 0; order < ORDERS; order++) {
                for (long weight : weights[order]) {
                    laterByOne(kind, order, weight);
                }
            }
        }
        Scene low = holding(TWO_ENDED, LOW, 65536);
        changesNothing(low, "a less key of a greater weight", x -> x.decrease(0, 1), LATER);
        changesNothing(low, "a key below 0 of a greater weight", x -> x.decrease(0, -1), LATER);
    }

    private static Scene holding(int kind, int order, long key) {
        return new Scene(x -> {
            x.open(kind, order);
            x.insert(0, key, 7);
        });
    }

    private static void laterByOne(int kind, int order, long weight) {
        Scene scene = holding(kind, order, keyOf(order, weight));
        long greater = keyOf(order, weight + 1);
        String name = "decrease to a weight one above " + weight + ", order " + order;
        changesNothing(scene, name, x -> x.decrease(0, greater), LATER);
        due("decrease to the same weight", scene.make().decrease(0, keyOf(order, weight)), 1);
    }

    private static void promise8Below() {
        sentence("promise 8", "BELOW when that heap is MONOTONE and the weight is less than its floor");
        refused(MIXED, "decrease to 8", 13, x -> x.decrease(13, 8), BELOW);
        refused(MIXED, "decrease to 8", 14, x -> x.decrease(14, 8), BELOW);
        refused(MIXED, "decrease to 0", 15, x -> x.decrease(15, 0), BELOW);
        due("decrease to the floor", MIXED.make().decrease(13, 9), 1);
        due("decrease to one above the floor", MIXED.make().decrease(15, 10), 1);
        due("decrease in a MELDABLE heap", MIXED.make().decrease(4, MIN), 1);
        due("decrease in a TWO-ENDED heap", MIXED.make().decrease(8, MAX), 1);
        for (int order = 0; order < ORDERS; order++) {
            long below = keyOf(order, 99);
            long above = keyOf(order, 101);
            Scene scene = withFloor(order, keyOf(order, 100)).then(x -> x.insert(0, above, 0));
            changesNothing(scene, "decrease to one below the floor, order " + order, x -> x.decrease(1, below), BELOW);
            due("decrease to the floor", scene.make().decrease(1, keyOf(order, 100)), 1);
        }
    }

    /**
     * Both would fit only for an entry that is below the floor of its own heap, and none ever is (the
     * runs of ModelTest look for one after every call). What can be tested is that each has its place:
     * LATER above the weight that the entry has, at the floor too, and BELOW under the floor.
     */
    private static void promise8LaterNamedBeforeBelow() {
        sentence("promise 8", "LATER ..; BELOW .. (the one that is named first)");
        int floor = 100;
        for (int order = 0; order < ORDERS; order++) {
            for (int weight = floor; weight < floor + 3; weight++) {
                for (int wanted = floor - 3; wanted < floor + 6; wanted++) {
                    laterOrBelow(order, floor, weight, wanted);
                }
            }
        }
    }

    private static void laterOrBelow(int order, int floor, int weight, int wanted) {
        long held = keyOf(order, weight);
        long key = keyOf(order, wanted);
        Scene scene = withFloor(order, keyOf(order, floor)).then(x -> x.insert(0, held, 0));
        String name = "decrease from " + weight + " to " + wanted + ", the floor being " + floor;
        if (wanted > weight) {
            changesNothing(scene, name, x -> x.decrease(1, key), LATER);
        } else if (wanted < floor) {
            changesNothing(scene, name, x -> x.decrease(1, key), BELOW);
        } else {
            due(name, scene.make().decrease(1, key), 1);
        }
    }

    private interface EntryCall {
        long on(MeldingHeaps x, int entry);
    }

    private static void entryRefusals(String promise, String name, EntryCall call) {
        sentence(promise, "UNKNOWN");
        for (int number : NO_ENTRIES) {
            refused(MIXED, name, number, x -> call.on(x, number), UNKNOWN);
        }
        refused(ALL_OF_BOTH, name, MOST_ENTRIES, x -> call.on(x, MOST_ENTRIES), UNKNOWN);
        sentence(promise, "REMOVED");
        for (int entry : REMOVED_ENTRIES) {
            refused(MIXED, name, entry, x -> call.on(x, entry), REMOVED);
            refused(ALL_OF_BOTH, name, entry, x -> call.on(x, entry), REMOVED);
        }
    }

    private static void promise9() {
        entryRefusals("promise 9", "delete", MeldingHeaps::delete);
    }

    /** Whatever the other is, the refusal of the heap is the answer. */
    private static void heapFirst(String promise, String name, PairCall call) {
        sentence(promise, "UNKNOWN when the heap is (named before all that is said of the other)");
        for (int number : NO_HEAPS) {
            for (int other : new int[] {number, -1, NEXT_HEAP, ABSORBED_LATE, 0, FILLED_TWO_ENDED, EMPTY_MONOTONE}) {
                refused(MIXED, name + " with " + other, number, x -> call.on(x, number, other), UNKNOWN);
            }
        }
        sentence(promise, "ABSORBED when the heap is (named before all that is said of the other)");
        for (int heap : ABSORBED_HEAPS) {
            for (int other : new int[] {-1, NEXT_HEAP, INT_MAX, ABSORBED_LATE, ABSORBED_EARLY}) {
                refused(MIXED, name + " with " + other, heap, x -> call.on(x, heap, other), ABSORBED);
            }
            for (int other : GOOD_HEAPS) {
                refused(MIXED, name + " with " + other, heap, x -> call.on(x, heap, other), ABSORBED);
            }
        }
    }

    private static void otherNext(String promise, String name, PairCall call) {
        sentence(promise, "UNKNOWN when the other is (named before UNLIKE)");
        for (int heap : GOOD_HEAPS) {
            for (int number : NO_HEAPS) {
                refused(MIXED, name + " with " + number, heap, x -> call.on(x, heap, number), UNKNOWN);
            }
        }
        sentence(promise, "ABSORBED when the other is (named before UNLIKE)");
        for (int heap : GOOD_HEAPS) {
            for (int other : ABSORBED_HEAPS) {
                refused(MIXED, name + " with " + other, heap, x -> call.on(x, heap, other), ABSORBED);
            }
        }
    }

    private static void sameHeap(String promise, String name, PairCall call) {
        sentence(promise, "UNLIKE when both are the same heap");
        for (int heap : GOOD_HEAPS) {
            refused(MIXED, name + " with itself", heap, x -> call.on(x, heap, heap), UNLIKE);
        }
        refused(ALL_OF_BOTH, name + " with itself", 0, x -> call.on(x, 0, 0), UNLIKE);
    }

    private static void promise10HeapFirst() {
        heapFirst("promise 10", "meld", MeldingHeaps::meld);
    }

    private static void promise10Other() {
        otherNext("promise 10", "meld", MeldingHeaps::meld);
    }

    private static void promise10SameHeap() {
        sameHeap("promise 10", "meld", MeldingHeaps::meld);
    }

    private static void promise10NotMeldable() {
        sentence("promise 10", "UNLIKE .. when one of them is not MELDABLE");
        for (int order = 0; order < ORDERS; order++) {
            for (int kind = 0; kind < KINDS; kind++) {
                for (int otherKind = 0; otherKind < KINDS; otherKind++) {
                    if (kind != MELDABLE || otherKind != MELDABLE) {
                        meldUnlike(kind, order, otherKind, order);
                    }
                }
            }
        }
    }

    private static void promise10OtherOrders() {
        sentence("promise 10", "UNLIKE .. when their orders are not the same");
        for (int order = 0; order < ORDERS; order++) {
            for (int otherOrder = 0; otherOrder < ORDERS; otherOrder++) {
                if (order != otherOrder) {
                    meldUnlike(MELDABLE, order, MELDABLE, otherOrder);
                }
            }
        }
    }

    private static void meldUnlike(int kind, int order, int otherKind, int otherOrder) {
        Scene empty = new Scene(x -> {
            x.open(kind, order);
            x.open(otherKind, otherOrder);
        });
        Scene filled = empty.then(x -> {
            x.insert(0, 1, 1);
            x.insert(1, 2, 2);
            x.insert(1, 0, 3);
        });
        String name = "meld of " + kind + ", " + order + " and " + otherKind + ", " + otherOrder;
        changesNothing(empty, name + ", both empty", x -> x.meld(0, 1), UNLIKE);
        changesNothing(filled, name, x -> x.meld(0, 1), UNLIKE);
    }

    private static void promise11HeapFirst() {
        for (int n : new int[] {INT_MIN, 0, 1, INT_MAX}) {
            heapFirst("promise 11", "drain of " + n, (x, heap, other) -> x.drain(heap, other, n));
        }
    }

    private static void promise11Other() {
        for (int n : new int[] {0, 1}) {
            otherNext("promise 11", "drain of " + n, (x, heap, other) -> x.drain(heap, other, n));
        }
    }

    private static void promise11SameHeap() {
        for (int n : COUNTS) {
            sameHeap("promise 11", "drain of " + n, (x, heap, other) -> x.drain(heap, other, n));
        }
    }

    /** No refusals, but ends before the first entry: nothing has changed either. */
    private static void promise11NothingGoesOver() {
        sentence("promise 11", "0 when n is 0 or less");
        for (int n : new int[] {INT_MIN, -65536, -1, 0}) {
            for (int heap : GOOD_HEAPS) {
                int other = heap == FILLED_TWO_ENDED ? FILLED_MELDABLE : FILLED_TWO_ENDED;
                refused(MIXED, "drain of " + n, heap, x -> x.drain(heap, other, n), 0);
                refused(MIXED, "drain of " + n + " into", heap, x -> x.drain(other, heap, n), 0);
            }
        }
        sentence("promise 11", "It ends .. when the heap is empty");
        for (int n : COUNTS) {
            refused(MIXED, "drain of " + n, EMPTY_MELDABLE, x -> x.drain(EMPTY_MELDABLE, 0, n), 0);
            refused(MIXED, "drain of " + n, EMPTY_TWO_ENDED, x -> x.drain(EMPTY_TWO_ENDED, 0, n), 0);
            refused(MIXED, "drain of " + n, EMPTY_MONOTONE, x -> x.drain(EMPTY_MONOTONE, 0, n), 0);
        }
        sentence("promise 11", "It ends .. before an entry whose weight .. is less than the floor of the other heap");
        for (int n : COUNTS) {
            refused(MIXED, "drain of " + n, FILLED_TWO_ENDED, x -> x.drain(FILLED_TWO_ENDED, FILLED_MONOTONE, n), 0);
            refused(MIXED, "drain of " + n, FILLED_MONOTONE, x -> x.drain(FILLED_MONOTONE, EMPTY_MONOTONE, n), 0);
        }
    }

    private static void promise12() {
        heapRefusals("promise 12", "clear", MeldingHeaps::clear);
    }

    private static void promise13() {
        heapRefusals("promise 13", "size", MeldingHeaps::size);
    }

    private static void promise14() {
        sentence("promise 14", "-2^63 .. for every number that no heap has");
        for (int number : NO_HEAPS) {
            refused(MIXED, "floor", number, x -> x.floor(number), MIN);
        }
        refused(ALL_OF_BOTH, "floor", MOST_HEAPS, x -> x.floor(MOST_HEAPS), MIN);
        sentence("promise 14", "-2^63 for every other heap (absorbed ones too)");
        for (int heap : new int[] {0, 1, 2, 4, 5, 7, 8}) {
            refused(MIXED, "floor", heap, x -> x.floor(heap), MIN);
        }
    }

    private static void promise15And16() {
        for (int number : NO_ENTRIES) {
            sentence("promise 15", "0 when .. no entry has this number");
            refused(MIXED, "key", number, x -> x.key(number), 0);
            sentence("promise 16", "0 when .. no entry has this number");
            refused(MIXED, "value", number, x -> x.value(number), 0);
        }
        for (int entry : REMOVED_ENTRIES) {
            sentence("promise 15", "0 when it was removed");
            refused(MIXED, "key", entry, x -> x.key(entry), 0);
            sentence("promise 16", "0 when it was removed");
            refused(MIXED, "value", entry, x -> x.value(entry), 0);
        }
        sentence("promises 15 and 16", "no entry has this number (after the 160th)");
        refused(ALL_OF_BOTH, "key", MOST_ENTRIES, x -> x.key(MOST_ENTRIES), 0);
        refused(ALL_OF_BOTH, "value", MOST_ENTRIES, x -> x.value(MOST_ENTRIES), 0);
    }

    private static void promise17() {
        entryRefusals("promise 17", "owner", MeldingHeaps::owner);
    }

    private static void promise18() {
        entryRefusals("promise 18", "before", MeldingHeaps::before);
    }
}
