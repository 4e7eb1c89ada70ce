/** The edges that the promises name and that are not refused: empty, full, equal, at the floor, the limits of n. */
public final class EdgesTest extends Sentences {
    public static void main(String[] args) {
        newObjectsAreApart();
        openedHeapIsEmpty();
        openOfEveryKindAndOrder();
        insertAtTheFloor();
        insertWithoutAFloor();
        insertTheLastOne();
        firstAfterEachChange();
        lastAfterEachChange();
        takeTheOnlyOne();
        takeLeavesOtherKindsWithoutFloor();
        takeRaisesTheFloor();
        takeAllOfAFullHeap();
        takeLastTheOnlyOne();
        takeLastOfEqualWeights();
        takeLastOfAFullHeap();
        decreaseToTheSameKey();
        decreaseToAnotherKeyOfTheSameWeight();
        decreaseAnswersFirst();
        decreaseTheOnlyOne();
        decreaseAcrossTheLimits();
        decreaseToTheFloor();
        decreaseByTheOrderOfItsHeapNow();
        decreaseKeepsValueAndNumber();
        deleteFirstMiddleLastOnly();
        deleteAnswersTheHeapItWasIn();
        meldOfEmptyHeaps();
        meldOfAllEntries();
        meldKeepsEntries();
        meldCounts();
        drainOneByOne();
        drainEndsAtN();
        drainEndsWhenEmpty();
        drainEndsAtTheFloor();
        drainEndsBehindNoOneElse();
        drainAtTheFloorGoesOver();
        drainByWeightInTheOtherOrder();
        drainRaisesItsOwnFloor();
        drainLeavesTheOtherFloor();
        drainLeavesFloorWhenNoneGoes();
        drainOfAllKindsAndOrders();
        drainWhenFull();
        drainAbsorbsNothing();
        clearOfAnEmptyHeap();
        clearOfAllEntries();
        clearOfOneHeapAlone();
        clearResetsTheFloor();
        sizeFromEmptyToFull();
        floorOfEveryKind();
        keyOfZero();
        keyNow();
        valueForGood();
        ownerNow();
        beforeInAFullHeap();
        beforeCountsItsHeapAlone();
        CHECKS.end();
    }

    private static void newObjectsAreApart() {
        sentence("promise 1", "No heaps and no entries");
        MeldingHeaps x = withHeaps(MONOTONE, ASCENDING);
        fill(x, 0, 0, 5, 6);
        due("take(0)", x.take(0), 0);
        MeldingHeaps y = new MeldingHeaps();
        due("size(0) of a second object", y.size(0), UNKNOWN);
        due("owner(1) of a second object", y.owner(1), UNKNOWN);
        due("floor(0) of a second object", y.floor(0), MIN);
        due("key(1) of a second object", y.key(1), 0);
        due("open", y.open(TWO_ENDED, LOW), 0);
        due("insert", y.insert(0, 1, 1), 0);
        due("floor(0) of the first object", x.floor(0), 5);
        due("owner(0) of the first object", x.owner(0), REMOVED);
        due("last(0) of the first object", x.last(0), UNLIKE);
    }

    private static void openedHeapIsEmpty() {
        sentence("promise 2", "Opens an empty heap of this kind and order and answers its number");
        MeldingHeaps x = withHeaps(MONOTONE, ASCENDING, MELDABLE, LOW, MELDABLE, LOW);
        fill(x, 0, 0, 5, 6);
        fill(x, 1, 2, 7);
        due("take(0)", x.take(0), 0);
        due("meld(2, 1)", x.meld(2, 1), 1);
        due("delete(2)", x.delete(2), 2);
        for (int heap = 3; heap < MOST_HEAPS; heap++) {
            due("open", x.open(heap % KINDS, ASCENDING), heap);
            due("size", x.size(heap), 0);
            due("first", x.first(heap), NONE);
            due("floor", x.floor(heap), MIN);
        }
    }

    private static void openOfEveryKindAndOrder() {
        sentence("promise 2", "the kind is not 0 .. 2 or the order not 0 .. 3");
        MeldingHeaps x = new MeldingHeaps();
        for (int i = 0; i < MOST_HEAPS; i++) {
            due("open(" + i % KINDS + ", " + i % ORDERS + ")", x.open(i % KINDS, i % ORDERS), i);
        }
    }

    /** A MONOTONE heap 0 whose floor is 20, after entry 0 was taken. */
    private static MeldingHeaps withFloor20(int order) {
        MeldingHeaps x = withHeaps(MONOTONE, order);
        fill(x, 0, 0, keyOf(order, 20));
        due("take(0)", x.take(0), 0);
        due("floor(0)", x.floor(0), 20);
        return x;
    }

    private static void insertAtTheFloor() {
        sentence("promise 3", "BELOW when .. the weight of the key in its order is less than its floor");
        for (int order = 0; order < ORDERS; order++) {
            MeldingHeaps x = withFloor20(order);
            due("insert one below", x.insert(0, keyOf(order, 19), 0), BELOW);
            due("insert at the floor", x.insert(0, keyOf(order, 20), 0), 1);
            due("insert one above", x.insert(0, keyOf(order, 21), 0), 2);
            due("take(0)", x.take(0), 1);
            due("insert at the floor again", x.insert(0, keyOf(order, 20), 0), 3);
            due("take(0)", x.take(0), 3);
            due("floor(0)", x.floor(0), 20);
            due("take(0)", x.take(0), 2);
            due("insert at the former floor", x.insert(0, keyOf(order, 20), 0), BELOW);
        }
    }

    private static void insertWithoutAFloor() {
        sentence("promise 3", "BELOW when the heap is MONOTONE");
        for (int kind : new int[] {MELDABLE, TWO_ENDED}) {
            for (int order = 0; order < ORDERS; order++) {
                MeldingHeaps x = withHeaps(kind, order, MELDABLE, order);
                fill(x, 0, 0, keyOf(order, 20), keyOf(order, 30));
                due("take(0)", x.take(0), 0);
                due("drain(0, 1, 1)", x.drain(0, 1, 1), 1);
                due("insert of a less weight", x.insert(0, keyOf(order, 10), 0), 2);
                due("drain of a less weight", x.drain(1, 0, 1), 1);
                due("decrease below", x.decrease(1, keyOf(order, 5)), 1);
            }
        }
    }

    private static void insertTheLastOne() {
        sentence("promise 3", "FULL when 160 were inserted");
        for (int kind = 0; kind < KINDS; kind++) {
            MeldingHeaps x = withHeaps(kind, ASCENDING);
            for (int entry = 0; entry < MOST_ENTRIES; entry++) {
                due("insert", x.insert(0, -entry, entry), entry);
            }
            due("insert the 161st", x.insert(0, 5, 5), FULL);
            due("size(0)", x.size(0), 160);
            due("first(0)", x.first(0), 159);
            due("before(0)", x.before(0), 159);
        }
    }

    private static void firstAfterEachChange() {
        sentence("promise 4", "The number of the first entry of the heap, which stays there");
        MeldingHeaps x = withHeaps(TWO_ENDED, ASCENDING, MONOTONE, DESCENDING);
        fill(x, 0, 0, 5);
        due("first(0) of one", x.first(0), 0);
        fill(x, 0, 1, 5, 4, 6);
        due("first(0) after a lesser one", x.first(0), 2);
        due("decrease(3, 3)", x.decrease(3, 3), 1);
        due("first(0) after decrease", x.first(0), 3);
        due("delete(3)", x.delete(3), 0);
        due("first(0) after delete", x.first(0), 2);
        due("drain(0, 1, 1)", x.drain(0, 1, 1), 1);
        due("first(0) after drain", x.first(0), 0);
        due("first(1) after drain", x.first(1), 2);
        due("take(0)", x.take(0), 0);
        due("first(0) after take", x.first(0), 1);
        due("takeLast(0)", x.takeLast(0), 1);
        due("first(0) when empty", x.first(0), NONE);
        due("first(1), which stays there", x.first(1), 2);
        due("clear(1)", x.clear(1), 1);
        due("first(1) when cleared", x.first(1), NONE);
    }

    private static void lastAfterEachChange() {
        sentence("promise 5", "The number of the last entry of the heap, which stays there");
        MeldingHeaps x = withHeaps(TWO_ENDED, DESCENDING, TWO_ENDED, ASCENDING);
        fill(x, 0, 0, 5);
        due("last(0) of one", x.last(0), 0);
        fill(x, 0, 1, 6, 5, 4);
        due("last(0)", x.last(0), 3);
        due("decrease(3, 5)", x.decrease(3, 5), 0);
        due("last(0) of equal weights", x.last(0), 3);
        due("decrease(3, 7)", x.decrease(3, 7), 1);
        due("last(0) after decrease", x.last(0), 2);
        due("delete(2)", x.delete(2), 0);
        due("last(0) after delete", x.last(0), 0);
        due("drain(0, 1, 2)", x.drain(0, 1, 2), 2);
        due("last(0) after drain", x.last(0), 0);
        due("last(1) after drain", x.last(1), 3);
        due("takeLast(1)", x.takeLast(1), 3);
        due("last(1) after takeLast", x.last(1), 1);
        due("take(0)", x.take(0), 0);
        due("last(0) when empty", x.last(0), NONE);
        due("last(1), which stays there", x.last(1), 1);
        due("clear(1)", x.clear(1), 1);
        due("last(1) when cleared", x.last(1), NONE);
    }

    private static void takeTheOnlyOne() {
        sentence("promise 6", "Removes the first entry of the heap and answers its number .. NONE when it is empty");
        for (int kind = 0; kind < KINDS; kind++) {
            MeldingHeaps x = withHeaps(kind, UNSIGNED);
            for (int entry = 0; entry < 3; entry++) {
                fill(x, 0, entry, -1);
                due("take(0)", x.take(0), entry);
                due("owner", x.owner(entry), REMOVED);
                due("take(0) when empty", x.take(0), NONE);
                due("size(0)", x.size(0), 0);
            }
        }
    }

    private static void takeLeavesOtherKindsWithoutFloor() {
        sentence("promise 6", "if the heap is MONOTONE, its floor becomes the weight of that entry");
        for (int order = 0; order < ORDERS; order++) {
            for (int kind = 0; kind < KINDS; kind++) {
                MeldingHeaps x = withHeaps(kind, order);
                fill(x, 0, 0, keyOf(order, 3));
                due("take(0)", x.take(0), 0);
                due("floor(0), kind " + kind, x.floor(0), kind == MONOTONE ? 3 : MIN);
            }
        }
    }

    private static void takeRaisesTheFloor() {
        sentence("promise 6", "its floor becomes the weight of that entry (the key that it has then)");
        MeldingHeaps x = withHeaps(MONOTONE, LOW);
        fill(x, 0, 0, 65536 * 3 + 9, 8);
        due("decrease(0, 65536 + 7)", x.decrease(0, 65536 + 7), 1);
        due("take(0)", x.take(0), 0);
        due("floor(0)", x.floor(0), 7);
        due("take(0)", x.take(0), 1);
        due("floor(0)", x.floor(0), 8);
    }

    private static void takeAllOfAFullHeap() {
        sentence("promise 6", "Removes the first entry of the heap (of 160)");
        for (int kind = 0; kind < KINDS; kind++) {
            MeldingHeaps x = withHeaps(kind, DESCENDING);
            for (int entry = 0; entry < MOST_ENTRIES; entry++) {
                due("insert", x.insert(0, entry / 2, 0), entry);
            }
            for (int pair = 79; pair >= 0; pair--) {
                due("take(0)", x.take(0), pair * 2);
                due("take(0)", x.take(0), pair * 2 + 1);
            }
            due("take(0) when empty", x.take(0), NONE);
        }
    }

    private static void takeLastTheOnlyOne() {
        sentence("promise 7", "Removes the last entry of the heap and answers its number .. NONE when it is empty");
        MeldingHeaps x = withHeaps(TWO_ENDED, UNSIGNED);
        for (int entry = 0; entry < 3; entry++) {
            fill(x, 0, entry, -1);
            due("takeLast(0)", x.takeLast(0), entry);
            due("owner", x.owner(entry), REMOVED);
            due("takeLast(0) when empty", x.takeLast(0), NONE);
            due("size(0)", x.size(0), 0);
            due("floor(0)", x.floor(0), MIN);
        }
    }

    private static void takeLastOfEqualWeights() {
        sentence("promise 7", "Removes the last entry of the heap (of equal weights the greatest number)");
        for (int order = 0; order < ORDERS; order++) {
            MeldingHeaps x = withHeaps(TWO_ENDED, order);
            fill(x, 0, 0, 3, 3, 3, 3);
            due("takeLast(0)", x.takeLast(0), 3);
            due("take(0)", x.take(0), 0);
            due("takeLast(0)", x.takeLast(0), 2);
            due("takeLast(0)", x.takeLast(0), 1);
            due("takeLast(0)", x.takeLast(0), NONE);
        }
    }

    private static void takeLastOfAFullHeap() {
        sentence("promise 7", "Removes the last entry of the heap (of 160)");
        MeldingHeaps x = withHeaps(TWO_ENDED, LOW);
        for (int entry = 0; entry < MOST_ENTRIES; entry++) {
            due("insert", x.insert(0, 65536L * (MOST_ENTRIES - entry) + entry / 2, 0), entry);
        }
        for (int entry = MOST_ENTRIES - 1; entry >= 0; entry--) {
            due("takeLast(0)", x.takeLast(0), entry);
        }
        due("takeLast(0) when empty", x.takeLast(0), NONE);
    }

    private static void decreaseToTheSameKey() {
        sentence("promise 8", "LATER when the weight .. is greater than that of the key it has (an equal one is not)");
        for (int kind = 0; kind < KINDS; kind++) {
            MeldingHeaps x = withHeaps(kind, ASCENDING, kind, DESCENDING, kind, UNSIGNED, kind, LOW);
            for (int heap = 0; heap < ORDERS; heap++) {
                fill(x, heap, heap * 2, keyOf(heap, 4), keyOf(heap, 5));
                due("decrease of the first", x.decrease(heap * 2, keyOf(heap, 4)), 1);
                due("decrease of the second", x.decrease(heap * 2 + 1, keyOf(heap, 5)), 0);
                due("key of the second", x.key(heap * 2 + 1), keyOf(heap, 5));
            }
        }
    }

    private static void decreaseToAnotherKeyOfTheSameWeight() {
        sentence("promise 8", "a key of the same weight may be another key, and replaces it all the same");
        for (int kind = 0; kind < KINDS; kind++) {
            MeldingHeaps x = withHeaps(kind, LOW, TWO_ENDED, ASCENDING);
            fill(x, 0, 0, 5, 5, 65535);
            due("decrease(1, 65541)", x.decrease(1, 65541), 0);
            due("key(1)", x.key(1), 65541);
            due("decrease(0, MIN + 5)", x.decrease(0, MIN + 5), 1);
            due("key(0)", x.key(0), MIN + 5);
            due("decrease(2, -1)", x.decrease(2, -1), 0);
            due("key(2)", x.key(2), -1);
            due("drain(0, 1, 3)", x.drain(0, 1, 3), 3);
            takeAll(x, 1, 0, 2, 1);
        }
    }

    private static void decreaseAnswersFirst() {
        sentence("promise 8", "Answers 1 if the entry is the first one of its heap then, 0 if it is not");
        for (int kind = 0; kind < KINDS; kind++) {
            for (int order = 0; order < ORDERS; order++) {
                MeldingHeaps x = withHeaps(kind, order, kind, order);
                fill(x, 0, 0, keyOf(order, 50), keyOf(order, 60), keyOf(order, 70));
                fill(x, 1, 3, keyOf(order, 10));
                due("the second, one above the first", x.decrease(1, keyOf(order, 51)), 0);
                due("the second, like the first", x.decrease(1, keyOf(order, 50)), 0);
                due("the second, one below the first", x.decrease(1, keyOf(order, 49)), 1);
                due("the one before, like the first", x.decrease(0, keyOf(order, 49)), 1);
                due("the third, like both", x.decrease(2, keyOf(order, 49)), 0);
                due("the third, below both", x.decrease(2, keyOf(order, 48)), 1);
                takeAll(x, 0, 2, 0, 1);
            }
        }
    }

    private static void decreaseTheOnlyOne() {
        sentence("promise 8", "Answers 1 if the entry is the first one of its heap then (the only one is)");
        for (int kind = 0; kind < KINDS; kind++) {
            MeldingHeaps x = withHeaps(kind, ASCENDING, kind, ASCENDING);
            fill(x, 0, 0, 9);
            fill(x, 1, 1, 1);
            due("decrease(0, 9)", x.decrease(0, 9), 1);
            due("decrease(0, 8)", x.decrease(0, 8), 1);
        }
    }

    private static void decreaseAcrossTheLimits() {
        sentence("promise 8", "The key of the entry becomes this one (from the greatest weight to the least)");
        long[][] greatestAndLeast = {{MAX, MIN}, {MIN, MAX}, {-1, 0}, {65535, 65536}};
        for (int kind = 0; kind < KINDS; kind++) {
            for (int order = 0; order < ORDERS; order++) {
                MeldingHeaps x = withHeaps(kind, order);
                fill(x, 0, 0, keyOf(order, 1), greatestAndLeast[order][0]);
                due("before(1)", x.before(1), 1);
                due("decrease(1, the least)", x.decrease(1, greatestAndLeast[order][1]), 1);
                due("key(1)", x.key(1), greatestAndLeast[order][1]);
                due("back is LATER", x.decrease(1, greatestAndLeast[order][0]), LATER);
                takeAll(x, 0, 1, 0);
            }
        }
    }

    private static void decreaseToTheFloor() {
        sentence("promise 8", "BELOW when that heap is MONOTONE and the weight is less than its floor");
        for (int order = 0; order < ORDERS; order++) {
            MeldingHeaps x = withFloor20(order);
            fill(x, 0, 1, keyOf(order, 25), keyOf(order, 20));
            due("decrease below", x.decrease(1, keyOf(order, 19)), BELOW);
            due("key after BELOW", x.key(1), keyOf(order, 25));
            due("decrease above", x.decrease(1, keyOf(order, 21)), 0);
            due("decrease to the floor", x.decrease(1, keyOf(order, 20)), 1);
            due("decrease at the floor", x.decrease(2, keyOf(order, 20)), 0);
            due("decrease of one at the floor", x.decrease(2, keyOf(order, 19)), BELOW);
            due("the floor stays", x.floor(0), 20);
            due("clear(0)", x.clear(0), 2);
            fill(x, 0, 3, keyOf(order, 5));
            due("decrease after a clear", x.decrease(3, keyOf(order, 0)), 1);
        }
    }

    private static void decreaseByTheOrderOfItsHeapNow() {
        sentence("promise 8", "in the order of the heap that it is in");
        MeldingHeaps x = withHeaps(MONOTONE, ASCENDING, MELDABLE, DESCENDING, MONOTONE, LOW);
        fill(x, 0, 0, 10);
        due("drain(0, 1, 1)", x.drain(0, 1, 1), 1);
        due("ASCENDING no more", x.decrease(0, 9), LATER);
        due("DESCENDING now", x.decrease(0, 65536 + 11), 1);
        due("drain(1, 2, 1)", x.drain(1, 2, 1), 1);
        due("DESCENDING no more", x.decrease(0, 65536 + 12), LATER);
        due("LOW now", x.decrease(0, 9), 1);
        due("the floor of the first heap is not asked", x.floor(0), 10);
        due("drain(2, 0, 1)", x.drain(2, 0, 1), 0);
        due("owner(0)", x.owner(0), 2);
    }

    private static void decreaseKeepsValueAndNumber() {
        sentence("promise 8", "The key of the entry becomes this one (and nothing else changes)");
        MeldingHeaps x = withHeaps(TWO_ENDED, ASCENDING);
        fill(x, 0, 0, 10, 20);
        due("decrease(1, 5)", x.decrease(1, 5), 1);
        due("value(1)", x.value(1), 101);
        due("owner(1)", x.owner(1), 0);
        due("key(0)", x.key(0), 10);
        due("last(0)", x.last(0), 0);
        due("size(0)", x.size(0), 2);
        due("insert", x.insert(0, 7, 0), 2);
    }

    private static void deleteFirstMiddleLastOnly() {
        sentence("promise 9", "Removes the entry");
        for (int kind = 0; kind < KINDS; kind++) {
            MeldingHeaps x = withHeaps(kind, ASCENDING);
            fill(x, 0, 0, 1, 2, 3, 4);
            due("delete the second", x.delete(1), 0);
            due("before(2)", x.before(2), 1);
            due("delete the first", x.delete(0), 0);
            due("first(0)", x.first(0), 2);
            due("delete the last", x.delete(3), 0);
            due("last(0)", x.last(0), kind == TWO_ENDED ? 2 : UNLIKE);
            due("delete the only one", x.delete(2), 0);
            due("first(0)", x.first(0), NONE);
            due("delete it again", x.delete(2), REMOVED);
        }
    }

    private static void deleteAnswersTheHeapItWasIn() {
        sentence("promise 9", "answers the number of the heap that it was in");
        MeldingHeaps x = withHeaps(MELDABLE, LOW, MELDABLE, LOW, MONOTONE, LOW, TWO_ENDED, LOW);
        fill(x, 0, 0, 1, 2, 3, 4);
        due("delete(3)", x.delete(3), 0);
        due("meld(1, 0)", x.meld(1, 0), 3);
        due("delete(2) after a meld", x.delete(2), 1);
        due("drain(1, 2, 1)", x.drain(1, 2, 1), 1);
        due("delete(0) after a drain", x.delete(0), 2);
        due("drain(1, 3, 1)", x.drain(1, 3, 1), 1);
        due("delete(1) after a drain", x.delete(1), 3);
    }

    private static void meldOfEmptyHeaps() {
        sentence("promise 10", "answers how many entries are in the heap then (0, if both are empty)");
        for (int order = 0; order < ORDERS; order++) {
            MeldingHeaps x = withHeaps(MELDABLE, order, MELDABLE, order, MELDABLE, order, MELDABLE, order);
            due("both empty", x.meld(3, 2), 0);
            fill(x, 3, 0, 5, 6);
            due("an empty other", x.meld(3, 1), 2);
            due("an empty heap", x.meld(0, 3), 2);
            due("size(0)", x.size(0), 2);
            due("first(0)", x.first(0), order == DESCENDING ? 1 : 0);
        }
    }

    private static void meldOfAllEntries() {
        sentence("promise 10", "answers how many entries are in the heap then (160)");
        MeldingHeaps x = withHeaps(0, 1, 0, 1, 0, 1, 0, 1, 0, 1, 0, 1, 0, 1, 0, 1, 0, 1, 0, 1, 0, 1, 0, 1);
        for (int entry = 0; entry < MOST_ENTRIES; entry++) {
            due("insert", x.insert(entry % MOST_HEAPS, entry, entry), entry);
        }
        // Heaps 0 to 3 have 14 entries each, all others 13.
        int[] counts = {28, 42, 56, 69, 82, 95, 108, 121, 134, 147, 160};
        int all = 0;
        for (int next = 1; next < MOST_HEAPS; next++) {
            // By turns the heap with all entries so far absorbs the next one, or is absorbed by it.
            boolean absorbs = next % 3 != 0;
            due("meld", absorbs ? x.meld(all, next) : x.meld(next, all), counts[next - 1]);
            all = absorbs ? all : next;
        }
        due("size at the end", x.size(all), 160);
        due("first at the end", x.first(all), 159);
        due("before(0) at the end", x.before(0), 159);
    }

    private static void meldKeepsEntries() {
        sentence("promise 10", "All entries of the other heap come into the heap, with their numbers, keys and values");
        MeldingHeaps x = withHeaps(MELDABLE, UNSIGNED, MELDABLE, UNSIGNED);
        fill(x, 1, 0, MIN, -1);
        fill(x, 0, 2, 0, MAX);
        fill(x, 1, 4, MIN);
        due("meld(0, 1)", x.meld(0, 1), 5);
        long[] keys = {MIN, -1, 0, MAX, MIN};
        int[] places = {2, 4, 0, 1, 3};
        for (int entry = 0; entry < 5; entry++) {
            due("key(" + entry + ")", x.key(entry), keys[entry]);
            due("value(" + entry + ")", x.value(entry), 100 + entry);
            due("owner(" + entry + ")", x.owner(entry), 0);
            due("before(" + entry + ")", x.before(entry), places[entry]);
        }
        takeAll(x, 0, 2, 3, 0, 4, 1);
    }

    private static void meldCounts() {
        sentence("promise 10", "how many entries are in the heap then (the removed ones not)");
        MeldingHeaps x = withHeaps(MELDABLE, ASCENDING, MELDABLE, ASCENDING, MELDABLE, ASCENDING);
        fill(x, 0, 0, 1, 2);
        fill(x, 1, 2, 1, 2, 3);
        fill(x, 2, 5, 1);
        due("take(0)", x.take(0), 0);
        due("delete(3)", x.delete(3), 1);
        due("meld(0, 1)", x.meld(0, 1), 3);
        due("clear(2)", x.clear(2), 1);
        due("meld(2, 0)", x.meld(2, 0), 3);
    }

    private static void drainOneByOne() {
        sentence("promise 11", "each time the first entry of the heap, as it is then, comes into the other heap");
        MeldingHeaps x = withHeaps(TWO_ENDED, DESCENDING, MELDABLE, ASCENDING);
        fill(x, 0, 0, 3, 9, 3, 7);
        int[] order = {1, 3, 0, 2};
        for (int i = 0; i < order.length; i++) {
            due("first(0)", x.first(0), order[i]);
            due("drain(0, 1, 1)", x.drain(0, 1, 1), 1);
            due("owner", x.owner(order[i]), 1);
            due("value", x.value(order[i]), 100 + order[i]);
            due("size(0)", x.size(0), 3 - i);
            due("size(1)", x.size(1), i + 1);
        }
        takeAll(x, 1, 0, 2, 3, 1);
    }

    private static void drainEndsAtN() {
        sentence("promise 11", "It ends when n entries have gone over");
        int[] counts = {INT_MIN, -1, 0, 1, 2, 3, 4, INT_MAX};
        int[] gone = {0, 0, 0, 1, 2, 3, 3, 3};
        for (int kind = 0; kind < KINDS; kind++) {
            for (int i = 0; i < counts.length; i++) {
                MeldingHeaps x = withHeaps(kind, ASCENDING, TWO_ENDED, ASCENDING);
                fill(x, 0, 0, 5, 6, 7);
                due("drain(0, 1, " + counts[i] + ")", x.drain(0, 1, counts[i]), gone[i]);
                due("size(0)", x.size(0), 3 - gone[i]);
                due("size(1)", x.size(1), gone[i]);
                due("last(1)", x.last(1), gone[i] - 1);
            }
        }
    }

    private static void drainEndsWhenEmpty() {
        sentence("promise 11", "It ends .. when the heap is empty");
        MeldingHeaps x = withHeaps(MELDABLE, ASCENDING, MONOTONE, DESCENDING);
        due("drain of a new heap", x.drain(0, 1, 1), 0);
        fill(x, 0, 0, 2, 1);
        due("drain(0, 1, 3)", x.drain(0, 1, 3), 2);
        due("drain(0, 1, 3) again", x.drain(0, 1, 3), 0);
        due("size(0)", x.size(0), 0);
        due("size(1)", x.size(1), 2);
    }

    private static void drainEndsAtTheFloor() {
        sentence("promise 11", "or before an entry whose weight in the order of the other heap is less than the floor of the other heap .. that entry stays");
        for (int order = 0; order < ORDERS; order++) {
            MeldingHeaps x = withFloor20(order);
            // An order in which these weights go over from the greatest to the least.
            due("open", x.open(TWO_ENDED, order == DESCENDING ? ASCENDING : DESCENDING), 1);
            long[] weights = {22, 18, 20, 19, 21};
            for (int i = 0; i < weights.length; i++) {
                fill(x, 1, i + 1, keyOf(order, weights[i]));
            }
            due("drain(1, 0, 9)", x.drain(1, 0, 9), 3);
            due("the one that stays", x.first(1), 4);
            due("the one behind it", x.last(1), 2);
            due("drain(1, 0, 9) again", x.drain(1, 0, 9), 0);
            takeAll(x, 0, 3, 5, 1);
        }
    }

    private static void drainEndsBehindNoOneElse() {
        sentence("promise 11", "It ends .. before an entry (those behind it stay, though they might go over)");
        MeldingHeaps x = withFloor20(ASCENDING);
        due("open", x.open(MELDABLE, ASCENDING), 1);
        fill(x, 1, 1, 19, 20, 30);
        due("drain(1, 0, 3)", x.drain(1, 0, 3), 0);
        due("size(1)", x.size(1), 3);
        due("delete(1)", x.delete(1), 1);
        due("drain(1, 0, 3) then", x.drain(1, 0, 3), 2);
    }

    private static void drainAtTheFloorGoesOver() {
        sentence("promise 11", "is less than the floor of the other heap (an equal one is not)");
        for (int order = 0; order < ORDERS; order++) {
            for (int kind = 0; kind < KINDS; kind++) {
                MeldingHeaps x = withFloor20(order);
                due("open", x.open(kind, order), 1);
                fill(x, 1, 1, keyOf(order, 20), keyOf(order, 20));
                due("drain(1, 0, 2)", x.drain(1, 0, 2), 2);
                fill(x, 0, 3, keyOf(order, 21));
                takeAll(x, 0, 1, 2, 3);
            }
        }
    }

    private static void drainByWeightInTheOtherOrder() {
        sentence("promise 11", "whose weight in the order of the other heap is less than the floor");
        MeldingHeaps x = withHeaps(MONOTONE, LOW, MELDABLE, ASCENDING, MONOTONE, UNSIGNED);
        fill(x, 0, 0, 7);
        due("take(0)", x.take(0), 0);
        fill(x, 2, 1, 7);
        due("take(2)", x.take(2), 1);
        fill(x, 1, 2, -65529, 7, 65542);
        due("-65529 and 7 have the weight 7, 65542 has 6", x.drain(1, 0, 9), 2);
        due("first(1)", x.first(1), 4);
        due("drain(0, 2, 9)", x.drain(0, 2, 9), 2);
        due("first(2): 7 is before -65529", x.first(2), 3);
        due("floor(0) in its own order", x.floor(0), 7);
        due("floor(2)", x.floor(2), MIN + 7);
    }

    private static void drainRaisesItsOwnFloor() {
        sentence("promise 11", "if the heap is MONOTONE, its floor becomes the weight of that entry in its order");
        for (int order = 0; order < ORDERS; order++) {
            for (int kind = 0; kind < KINDS; kind++) {
                MeldingHeaps x = withHeaps(MONOTONE, order, kind, DESCENDING);
                fill(x, 0, 0, keyOf(order, 3), keyOf(order, 2), keyOf(order, 4));
                due("drain(0, 1, 1)", x.drain(0, 1, 1), 1);
                due("floor(0)", x.floor(0), 2);
                due("drain(0, 1, 2)", x.drain(0, 1, 2), 2);
                due("floor(0)", x.floor(0), 4);
                due("insert below", x.insert(0, keyOf(order, 3), 0), BELOW);
            }
        }
        MeldingHeaps x = withHeaps(MELDABLE, ASCENDING, TWO_ENDED, ASCENDING);
        fill(x, 0, 0, 3);
        due("drain(0, 1, 1)", x.drain(0, 1, 1), 1);
        due("floor of a MELDABLE heap", x.floor(0), MIN);
        due("drain(1, 0, 1)", x.drain(1, 0, 1), 1);
        due("floor of a TWO-ENDED heap", x.floor(1), MIN);
    }

    private static void drainLeavesTheOtherFloor() {
        sentence("promise 11", "its floor becomes (that of the heap, not of the other)");
        MeldingHeaps x = withFloor20(ASCENDING);
        due("open", x.open(MONOTONE, ASCENDING), 1);
        fill(x, 1, 1, 30, 40);
        due("drain(1, 0, 2)", x.drain(1, 0, 2), 2);
        due("floor of the other", x.floor(0), 20);
        due("insert between", x.insert(0, 25, 0), 3);
        due("drain back: 25 is below 40", x.drain(0, 1, 1), 0);
        due("floor(0) after none has gone", x.floor(0), 20);
    }

    private static void drainLeavesFloorWhenNoneGoes() {
        sentence("promise 11", "0 when n is 0 or less (and the floor stays)");
        MeldingHeaps x = withFloor20(ASCENDING);
        due("open", x.open(MELDABLE, ASCENDING), 1);
        fill(x, 0, 1, 30);
        for (int n : new int[] {0, -1, INT_MIN}) {
            due("drain(0, 1, " + n + ")", x.drain(0, 1, n), 0);
            due("floor(0)", x.floor(0), 20);
            due("owner(1)", x.owner(1), 0);
        }
    }

    private static void drainOfAllKindsAndOrders() {
        sentence("promise 11", "The kinds and the orders of the two may be any; before which entries it is in the other heap is by the order of that one");
        // Places of the keys 1, -1, 65536, MIN by each order.
        int[][] byOrder = {{3, 1, 0, 2}, {2, 0, 1, 3}, {0, 2, 3, 1}, {2, 3, 0, 1}};
        for (int kinds = 0; kinds < KINDS * KINDS; kinds++) {
            for (int orders = 0; orders < ORDERS * ORDERS; orders++) {
                int to = orders % ORDERS;
                MeldingHeaps x = withHeaps(kinds / KINDS, orders / ORDERS, kinds % KINDS, to);
                fill(x, 0, 0, 1, -1, 65536, MIN);
                due("drain(0, 1, 4)", x.drain(0, 1, 4), 4);
                takeAll(x, 1, byOrder[to]);
            }
        }
    }

    private static void drainWhenFull() {
        sentence("promise 11", "Entries go from the heap to the other one by one (when 160 were inserted too)");
        MeldingHeaps x = withHeaps(TWO_ENDED, ASCENDING, MONOTONE, DESCENDING);
        for (int entry = 0; entry < MOST_ENTRIES; entry++) {
            due("insert", x.insert(0, entry, 0), entry);
        }
        due("drain(0, 1, 159)", x.drain(0, 1, 159), 159);
        due("first(0)", x.first(0), 159);
        due("drain(0, 1, 160)", x.drain(0, 1, 160), 1);
        due("size(1)", x.size(1), 160);
        due("first(1)", x.first(1), 159);
        due("drain(1, 0, 160)", x.drain(1, 0, 160), 160);
        due("floor(1)", x.floor(1), -1);
    }

    private static void drainAbsorbsNothing() {
        sentence("promise 11", "Entries go from the heap to the other (which absorbs none)");
        MeldingHeaps x = withHeaps(MELDABLE, ASCENDING, MELDABLE, ASCENDING);
        fill(x, 0, 0, 1, 2);
        due("drain(0, 1, 2)", x.drain(0, 1, 2), 2);
        due("size(0)", x.size(0), 0);
        due("insert(0, 3, 3)", x.insert(0, 3, 3), 2);
        due("meld(1, 0)", x.meld(1, 0), 3);
    }

    private static void clearOfAnEmptyHeap() {
        sentence("promise 12", "answers how many they were (0, if the heap is empty)");
        for (int kind = 0; kind < KINDS; kind++) {
            MeldingHeaps x = withHeaps(kind, ASCENDING);
            due("clear of a new heap", x.clear(0), 0);
            fill(x, 0, 0, 1, 2);
            due("clear(0)", x.clear(0), 2);
            due("clear(0) again", x.clear(0), 0);
            due("first(0)", x.first(0), NONE);
            due("insert after it", x.insert(0, 0, 0), 2);
        }
    }

    private static void clearOfAllEntries() {
        sentence("promise 12", "Removes all entries of the heap and answers how many they were (160)");
        for (int kind = 0; kind < KINDS; kind++) {
            MeldingHeaps x = withHeaps(kind, LOW);
            for (int entry = 0; entry < MOST_ENTRIES; entry++) {
                due("insert", x.insert(0, entry, 0), entry);
            }
            due("clear(0)", x.clear(0), 160);
            for (int entry = 0; entry < MOST_ENTRIES; entry++) {
                due("owner(" + entry + ")", x.owner(entry), REMOVED);
            }
            due("size(0)", x.size(0), 0);
            due("insert", x.insert(0, 0, 0), FULL);
        }
    }

    private static void clearOfOneHeapAlone() {
        sentence("promise 12", "Removes all entries of the heap (and of no other)");
        MeldingHeaps x = withHeaps(TWO_ENDED, ASCENDING, TWO_ENDED, ASCENDING, MELDABLE, ASCENDING);
        fill(x, 0, 0, 1, 2);
        fill(x, 1, 2, 3, 4);
        fill(x, 2, 4, 5);
        due("drain(0, 1, 1)", x.drain(0, 1, 1), 1);
        due("delete(3)", x.delete(3), 1);
        due("clear(1)", x.clear(1), 2);
        due("owner(0)", x.owner(0), REMOVED);
        due("owner(1)", x.owner(1), 0);
        due("owner(4)", x.owner(4), 2);
        due("size(0)", x.size(0), 1);
    }

    private static void clearResetsTheFloor() {
        sentence("promise 12", "If it is MONOTONE, its floor is -2^63 again");
        for (int order = 0; order < ORDERS; order++) {
            MeldingHeaps x = withFloor20(order);
            due("clear of an empty heap", x.clear(0), 0);
            due("floor(0)", x.floor(0), MIN);
            due("insert below the former floor", x.insert(0, keyOf(order, 0), 0), 1);
            due("take(0)", x.take(0), 1);
            due("floor(0)", x.floor(0), 0);
            fill(x, 0, 2, keyOf(order, 9));
            due("clear(0)", x.clear(0), 1);
            due("floor(0)", x.floor(0), MIN);
        }
    }

    private static void sizeFromEmptyToFull() {
        sentence("promise 13", "How many entries are in the heap");
        MeldingHeaps x = withHeaps(TWO_ENDED, ASCENDING);
        for (int entry = 0; entry < MOST_ENTRIES; entry++) {
            due("size(0)", x.size(0), entry);
            due("insert", x.insert(0, 0, 0), entry);
        }
        due("size(0) when full", x.size(0), 160);
        due("insert", x.insert(0, 0, 0), FULL);
        due("size(0) after FULL", x.size(0), 160);
        due("take(0)", x.take(0), 0);
        due("takeLast(0)", x.takeLast(0), 159);
        due("delete(1)", x.delete(1), 0);
        due("size(0)", x.size(0), 157);
        due("clear(0)", x.clear(0), 157);
        due("size(0)", x.size(0), 0);
    }

    private static void floorOfEveryKind() {
        sentence("promise 14", "The floor of the heap when it is a MONOTONE one; -2^63 for every other heap");
        for (int order = 0; order < ORDERS; order++) {
            MeldingHeaps x = withHeaps(MELDABLE, order, TWO_ENDED, order, MONOTONE, order);
            for (int kind = 0; kind < KINDS; kind++) {
                due("floor when new", x.floor(kind), MIN);
                fill(x, kind, kind * 2, keyOf(order, 6), keyOf(order, 5));
                due("floor when filled", x.floor(kind), MIN);
                due("take", x.take(kind), kind * 2 + 1);
                due("floor after a take", x.floor(kind), kind == MONOTONE ? 5 : MIN);
                due("drain", x.drain(kind, (kind + 1) % KINDS, 1), 1);
                due("floor after a drain", x.floor(kind), kind == MONOTONE ? 6 : MIN);
                due("clear of the other", x.clear((kind + 1) % KINDS), 1);
            }
        }
    }

    private static void keyOfZero() {
        sentence("promise 15", "The key that the entry has now (0 too)");
        MeldingHeaps x = withHeaps(MELDABLE, ASCENDING);
        due("insert(0, 0, 0)", x.insert(0, 0, 0), 0);
        due("key(0)", x.key(0), 0);
        due("value(0)", x.value(0), 0);
        due("owner(0)", x.owner(0), 0);
    }

    private static void keyNow() {
        sentence("promise 15", "The key that the entry has now; 0 when it was removed");
        MeldingHeaps x = withHeaps(MELDABLE, LOW, MELDABLE, LOW, MONOTONE, DESCENDING);
        fill(x, 0, 0, 65545);
        due("key(0)", x.key(0), 65545);
        due("decrease(0, 65544)", x.decrease(0, 65544), 1);
        due("key(0) after decrease", x.key(0), 65544);
        due("decrease(0, 9)", x.decrease(0, 9), LATER);
        due("key(0) after LATER", x.key(0), 65544);
        due("meld(1, 0)", x.meld(1, 0), 1);
        due("key(0) after a meld", x.key(0), 65544);
        due("drain(1, 2, 1)", x.drain(1, 2, 1), 1);
        due("key(0) after a drain", x.key(0), 65544);
        due("take(2)", x.take(2), 0);
        due("key(0) after a take", x.key(0), 0);
    }

    private static void valueForGood() {
        sentence("promise 16", "The value of the entry; 0 when it was removed");
        MeldingHeaps x = withHeaps(MELDABLE, LOW, MELDABLE, LOW, TWO_ENDED, DESCENDING);
        due("insert", x.insert(0, 5, INT_MIN), 0);
        due("value(0)", x.value(0), INT_MIN);
        due("decrease(0, 4)", x.decrease(0, 4), 1);
        due("value(0) after decrease", x.value(0), INT_MIN);
        due("meld(1, 0)", x.meld(1, 0), 1);
        due("value(0) after a meld", x.value(0), INT_MIN);
        due("drain(1, 2, 1)", x.drain(1, 2, 1), 1);
        due("value(0) after a drain", x.value(0), INT_MIN);
        due("takeLast(2)", x.takeLast(2), 0);
        due("value(0) after a takeLast", x.value(0), 0);
    }

    private static void ownerNow() {
        sentence("promise 17", "The number of the heap that the entry is in now");
        MeldingHeaps x = withHeaps(0, 0, 0, 0, 0, 0, 0, 0, 0, 0, 0, 0, 0, 0, 0, 0, 0, 0, 0, 0, 0, 0, 0, 0);
        fill(x, 0, 0, 1);
        for (int heap = 1; heap < MOST_HEAPS; heap++) {
            due("meld or drain", heap % 2 == 0 ? x.meld(heap, heap - 1) : x.drain(heap - 1, heap, 1), 1);
            due("owner(0)", x.owner(0), heap);
        }
        due("take(11)", x.take(11), 0);
        due("owner(0) when taken", x.owner(0), REMOVED);
    }

    private static void beforeInAFullHeap() {
        sentence("promise 18", "How many entries of the heap that the entry is in are before it (0 .. 159)");
        for (int order = 0; order < ORDERS; order++) {
            MeldingHeaps x = withHeaps(TWO_ENDED, order);
            for (int entry = 0; entry < MOST_ENTRIES; entry++) {
                // 77 and 160 have no common divisor, so every weight comes once.
                due("insert", x.insert(0, keyOf(order, 77 * entry % MOST_ENTRIES), 0), entry);
            }
            for (int entry = 0; entry < MOST_ENTRIES; entry++) {
                due("before(" + entry + ")", x.before(entry), 77 * entry % MOST_ENTRIES);
            }
        }
    }

    private static void beforeCountsItsHeapAlone() {
        sentence("promise 18", "How many entries of the heap that the entry is in (and of no other) are before it");
        MeldingHeaps x = withHeaps(MELDABLE, ASCENDING, MELDABLE, ASCENDING, TWO_ENDED, DESCENDING);
        fill(x, 0, 0, 1, 2);
        fill(x, 1, 2, 3, 1);
        due("before(2)", x.before(2), 1);
        due("before(3)", x.before(3), 0);
        due("meld(0, 1)", x.meld(0, 1), 4);
        due("before(2) after a meld", x.before(2), 3);
        due("before(3): of equal weights the less number first", x.before(3), 1);
        due("drain(0, 2, 3)", x.drain(0, 2, 3), 3);
        due("before(2) after a drain", x.before(2), 0);
        due("before(3) after a drain", x.before(3), 2);
        due("delete(0)", x.delete(0), 2);
        due("before(3) after a delete", x.before(3), 1);
    }
}
