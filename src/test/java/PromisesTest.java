/** Each promise of the document by its number: ordinary inputs, the edges, wrong inputs. */
public final class PromisesTest extends Sentences {
    private static final int[] NEVER_NUMBERS = {
        Integer.MIN_VALUE, -4, -3, -2, -1, 500, Integer.MAX_VALUE,
    };

    public static void main(String[] args) {
        newObject();
        open();
        openAfterAbsorbing();
        insert();
        weights();
        first();
        last();
        take();
        takeLast();
        decrease();
        delete();
        meld();
        meldRefusals();
        drain();
        drainEnds();
        drainFloors();
        drainRefusals();
        clear();
        size();
        floor();
        keyAndValue();
        owner();
        before();
        CHECKS.end();
    }

    /** Heap 1 is absorbed by heap 0; both MELDABLE and ASCENDING, entries 0 (key 5) and 1 (key 3). */
    private static MeldingHeaps withAbsorbed() {
        MeldingHeaps x = withHeaps(MELDABLE, ASCENDING, MELDABLE, ASCENDING);
        fill(x, 0, 0, 5);
        fill(x, 1, 1, 3);
        due("meld(0, 1)", x.meld(0, 1), 2);
        return x;
    }

    private static void newObject() {
        CHECKS.part("promise 1");
        MeldingHeaps x = new MeldingHeaps();
        due("size(0)", x.size(0), UNKNOWN);
        due("first(0)", x.first(0), UNKNOWN);
        due("owner(0)", x.owner(0), UNKNOWN);
        due("open", x.open(0, 0), 0);
        due("insert", x.insert(0, 1, 1), 0);
        MeldingHeaps y = new MeldingHeaps();
        due("size(0) of a second object", y.size(0), UNKNOWN);
        due("owner(0) of a second object", y.owner(0), UNKNOWN);
        due("owner(0) of the first object", x.owner(0), 0);
        due("size(0) of the first object", x.size(0), 1);
        due("open of the second object", y.open(1, 0), 0);
        due("last(0) of the first object", x.last(0), UNLIKE);
        due("last(0) of the second object", y.last(0), NONE);
    }

    private static void open() {
        CHECKS.part("promise 2");
        MeldingHeaps x = new MeldingHeaps();
        int opened = 0;
        for (int kind = 0; kind < 3; kind++) {
            for (int order = 0; order < 4; order++) {
                due("open(-1, 0)", x.open(-1, 0), UNKNOWN);
                due("open(3, 0)", x.open(3, 0), UNKNOWN);
                due("open(0, -1)", x.open(0, -1), UNKNOWN);
                due("open(0, 4)", x.open(0, 4), UNKNOWN);
                due("size of a heap to come", x.size(opened), UNKNOWN);
                due("open(" + kind + ", " + order + ")", x.open(kind, order), opened);
                due("size of a new heap", x.size(opened), 0);
                opened++;
            }
        }
        due("open the 13th", x.open(0, 0), FULL);
        due("open the 13th again", x.open(2, 3), FULL);
        due("open(3, 0) when full", x.open(3, 0), UNKNOWN);
        due("open(0, 4) when full", x.open(0, 4), UNKNOWN);
        due("open(MIN, MAX)", x.open(Integer.MIN_VALUE, Integer.MAX_VALUE), UNKNOWN);
        due("size(12)", x.size(12), UNKNOWN);
        due("size(11)", x.size(11), 0);
        due("meld(0, 1): other orders", x.meld(0, 1), UNLIKE);
    }

    private static void openAfterAbsorbing() {
        MeldingHeaps x = withAbsorbed();
        for (int heap = 2; heap < 12; heap++) {
            due("open after a meld", x.open(0, 0), heap);
        }
        due("an absorbed heap gives no place back", x.open(0, 0), FULL);
    }

    private static void insert() {
        CHECKS.part("promise 3");
        for (int number : NEVER_NUMBERS) {
            due("insert(" + number + ", 0, 0)", withAbsorbed().insert(number, 0, 0), UNKNOWN);
        }
        due("insert(2, ..): not yet opened", withAbsorbed().insert(2, 0, 0), UNKNOWN);
        due("insert(1, ..): absorbed", withAbsorbed().insert(1, 0, 0), ABSORBED);

        MeldingHeaps x = withHeaps(MONOTONE, DESCENDING, MELDABLE, ASCENDING, MELDABLE, ASCENDING);
        due("insert(0, 10, 7)", x.insert(0, 10, 7), 0);
        due("key(0)", x.key(0), 10);
        due("value(0)", x.value(0), 7);
        due("owner(0)", x.owner(0), 0);
        due("take(0)", x.take(0), 0);
        due("insert above the key of the floor", x.insert(0, 11, 0), BELOW);
        due("size after BELOW", x.size(0), 0);
        due("a refused insert gives no number", x.insert(0, 10, 0), 1);
        due("meld(1, 2)", x.meld(1, 2), 0);
        for (int entry = 2; entry < 160; entry++) {
            due("insert", x.insert(1, entry, -entry), entry);
        }
        due("insert the 161st", x.insert(1, 0, 0), FULL);
        due("insert at the floor when full", x.insert(0, 10, 0), FULL);
        due("insert below the floor when full", x.insert(0, 11, 0), BELOW);
        due("insert when full and absorbed", x.insert(2, 0, 0), ABSORBED);
        due("insert when full and unknown", x.insert(3, 0, 0), UNKNOWN);
        due("size(1)", x.size(1), 158);
        due("value(159)", x.value(159), -159);
        due("take(1)", x.take(1), 2);
        due("a removed entry gives no place back", x.insert(1, 0, 0), FULL);
    }

    private static void weights() {
        CHECKS.part("terms, weights");
        long[] keys = {MIN, MIN + 1, -65537, -1, 0, 1, 65535, 65536, 65537, MAX};
        long[][] due = {
            keys,
            {MAX, MAX - 1, 65536, 0, -1, -2, -65536, -65537, -65538, MIN},
            {0, 1, MAX - 65536, MAX, MIN, MIN + 1, MIN + 65535, MIN + 65536, MIN + 65537, -1},
            {0, 1, 65535, 65535, 0, 1, 65535, 0, 1, 65535},
        };
        for (int order = 0; order < 4; order++) {
            for (int i = 0; i < keys.length; i++) {
                MeldingHeaps x = withHeaps(MONOTONE, order);
                fill(x, 0, 0, keys[i]);
                due("take", x.take(0), 0);
                due("floor after key " + keys[i] + " in order " + order, x.floor(0), due[order][i]);
            }
        }
    }

    private static void first() {
        CHECKS.part("promise 4");
        for (int number : NEVER_NUMBERS) {
            due("first(" + number + ")", withAbsorbed().first(number), UNKNOWN);
        }
        due("first(2)", withAbsorbed().first(2), UNKNOWN);
        due("first(1)", withAbsorbed().first(1), ABSORBED);
        for (int kind = 0; kind < 3; kind++) {
            MeldingHeaps x = withHeaps(kind, ASCENDING, kind, DESCENDING, kind, UNSIGNED, kind, LOW);
            long[] keys = {3, -1, MAX, MIN, 65536, -1, MIN};
            int[] firsts = {3, 9, 14, 24};
            for (int heap = 0; heap < 4; heap++) {
                due("first of an empty heap", x.first(heap), NONE);
                fill(x, heap, heap * 7, keys);
            }
            for (int heap = 0; heap < 4; heap++) {
                due("first(" + heap + ")", x.first(heap), firsts[heap]);
                due("first(" + heap + ") again", x.first(heap), firsts[heap]);
                due("size(" + heap + ")", x.size(heap), 7);
                due("floor(" + heap + ")", x.floor(heap), MIN);
            }
        }
    }

    private static void last() {
        CHECKS.part("promise 5");
        for (int number : NEVER_NUMBERS) {
            due("last(" + number + ")", withAbsorbed().last(number), UNKNOWN);
        }
        due("last(2)", withAbsorbed().last(2), UNKNOWN);
        due("last(1)", withAbsorbed().last(1), ABSORBED);
        due("last of a MELDABLE heap", withAbsorbed().last(0), UNLIKE);
        MeldingHeaps x = withHeaps(TWO_ENDED, ASCENDING, TWO_ENDED, DESCENDING, TWO_ENDED, UNSIGNED,
            TWO_ENDED, LOW, MONOTONE, ASCENDING, MELDABLE, ASCENDING);
        due("last of an empty MONOTONE heap", x.last(4), UNLIKE);
        due("last of an empty MELDABLE heap", x.last(5), UNLIKE);
        long[] keys = {3, -1, MIN, MAX, 65536, MAX, -1, MIN};
        int[] lasts = {5, 15, 22, 30};
        for (int heap = 0; heap < 4; heap++) {
            due("last of an empty heap", x.last(heap), NONE);
            fill(x, heap, heap * 8, keys);
        }
        for (int heap = 0; heap < 4; heap++) {
            due("last(" + heap + ")", x.last(heap), lasts[heap]);
            due("last(" + heap + ") again", x.last(heap), lasts[heap]);
            due("size(" + heap + ")", x.size(heap), 8);
        }
        fill(x, 4, 32, 1);
        due("last of a MONOTONE heap", x.last(4), UNLIKE);
    }

    private static void take() {
        CHECKS.part("promise 6");
        for (int number : NEVER_NUMBERS) {
            due("take(" + number + ")", withAbsorbed().take(number), UNKNOWN);
        }
        due("take(2)", withAbsorbed().take(2), UNKNOWN);
        due("take(1)", withAbsorbed().take(1), ABSORBED);
        for (int kind = 0; kind < 3; kind++) {
            MeldingHeaps x = withHeaps(kind, ASCENDING, kind, DESCENDING, kind, UNSIGNED, kind, LOW);
            for (int heap = 0; heap < 4; heap++) {
                fill(x, heap, heap * 5, 2, -2, 65538, 2, MIN);
            }
            takeAll(x, 0, 4, 1, 0, 3, 2);
            takeAll(x, 1, 7, 5, 8, 6, 9);
            takeAll(x, 2, 10, 13, 12, 14, 11);
            takeAll(x, 3, 19, 15, 17, 18, 16);
            due("owner of a taken one", x.owner(0), REMOVED);
            due("size", x.size(0), 0);
            due("floor", x.floor(0), kind == MONOTONE ? 65538 : MIN);
            due("floor in order LOW", x.floor(3), kind == MONOTONE ? 65534 : MIN);
        }
        MeldingHeaps x = withHeaps(MONOTONE, ASCENDING);
        due("take when empty", x.take(0), NONE);
        due("floor after NONE", x.floor(0), MIN);
        fill(x, 0, 0, 9, 4);
        due("take", x.take(0), 1);
        due("floor", x.floor(0), 4);
        due("take", x.take(0), 0);
        due("floor", x.floor(0), 9);
        due("take when empty", x.take(0), NONE);
        due("floor after NONE", x.floor(0), 9);
    }

    private static void takeLast() {
        CHECKS.part("promise 7");
        for (int number : NEVER_NUMBERS) {
            due("takeLast(" + number + ")", withAbsorbed().takeLast(number), UNKNOWN);
        }
        due("takeLast(2)", withAbsorbed().takeLast(2), UNKNOWN);
        due("takeLast(1)", withAbsorbed().takeLast(1), ABSORBED);
        MeldingHeaps x = withHeaps(TWO_ENDED, LOW, MONOTONE, LOW, MELDABLE, LOW);
        due("takeLast of an empty MONOTONE heap", x.takeLast(1), UNLIKE);
        due("takeLast of an empty MELDABLE heap", x.takeLast(2), UNLIKE);
        due("takeLast when empty", x.takeLast(0), NONE);
        fill(x, 0, 0, 7, 65543, 1, -1, 7);
        fill(x, 1, 5, 1);
        fill(x, 2, 6, 1);
        due("takeLast of a MONOTONE heap", x.takeLast(1), UNLIKE);
        due("takeLast of a MELDABLE heap", x.takeLast(2), UNLIKE);
        due("size(1)", x.size(1), 1);
        due("size(2)", x.size(2), 1);
        due("takeLast(0)", x.takeLast(0), 3);
        due("takeLast(0)", x.takeLast(0), 4);
        due("owner(4)", x.owner(4), REMOVED);
        due("size(0)", x.size(0), 3);
        due("takeLast(0)", x.takeLast(0), 1);
        due("first(0)", x.first(0), 2);
        due("takeLast(0)", x.takeLast(0), 0);
        due("takeLast(0)", x.takeLast(0), 2);
        due("takeLast(0)", x.takeLast(0), NONE);
        due("floor(0)", x.floor(0), MIN);
    }

    private static void decrease() {
        CHECKS.part("promise 8");
        for (int number : NEVER_NUMBERS) {
            due("decrease(" + number + ", 0)", withAbsorbed().decrease(number, 0), UNKNOWN);
        }
        due("decrease(2, 0)", withAbsorbed().decrease(2, 0), UNKNOWN);
        decreaseInOrders();
        decreaseAtFloor();
        MeldingHeaps x = withAbsorbed();
        due("decrease(1, 4) after a meld", x.decrease(1, 4), LATER);
        due("decrease(0, 3): ties go to the less number", x.decrease(0, 3), 1);
        due("decrease(1, 3): the same key", x.decrease(1, 3), 0);
        due("decrease(1, MIN)", x.decrease(1, MIN), 1);
        due("value(1) stays", x.value(1), 101);
        due("take(0)", x.take(0), 1);
        due("decrease of a removed one", x.decrease(1, MIN), REMOVED);
        due("decrease of a removed one, later", x.decrease(1, MAX), REMOVED);
        due("key of a removed one", x.key(1), 0);
    }

    private static void decreaseInOrders() {
        MeldingHeaps x = withHeaps(MELDABLE, DESCENDING, TWO_ENDED, UNSIGNED, TWO_ENDED, LOW);
        fill(x, 0, 0, 5, 8);
        fill(x, 1, 2, -1, 7);
        fill(x, 2, 4, 3, 9);
        due("DESCENDING, a less key", x.decrease(0, 4), LATER);
        due("key after LATER", x.key(0), 5);
        due("DESCENDING, not yet first", x.decrease(0, 7), 0);
        due("DESCENDING, MAX", x.decrease(0, MAX), 1);
        due("UNSIGNED, a key with the sign", x.decrease(3, MIN), LATER);
        due("UNSIGNED, MIN from -1", x.decrease(2, MIN), 0);
        due("UNSIGNED, MAX from MIN", x.decrease(2, MAX), 0);
        due("UNSIGNED, 7", x.decrease(2, 7), 1);
        due("UNSIGNED, 0", x.decrease(3, 0), 1);
        due("last(1)", x.last(1), 2);
        due("LOW, 4 from 3", x.decrease(4, 4), LATER);
        due("LOW, -65536 - 1 from 3", x.decrease(4, -65537), LATER);
        due("LOW, another key of weight 9", x.decrease(5, 65536L * 5 + 9), 0);
        due("its key", x.key(5), 65536L * 5 + 9);
        due("LOW, a key of weight 3", x.decrease(5, 65536L * 7 + 3), 0);
        due("LOW, a key of weight 2", x.decrease(5, MIN + 2), 1);
        due("owner stays", x.owner(5), 2);
    }

    private static void decreaseAtFloor() {
        MeldingHeaps x = withHeaps(MONOTONE, ASCENDING, MELDABLE, ASCENDING);
        fill(x, 0, 0, 10, 30, 20);
        due("take(0)", x.take(0), 0);
        due("decrease(1, 9)", x.decrease(1, 9), BELOW);
        due("key after BELOW", x.key(1), 30);
        due("decrease(1, 31)", x.decrease(1, 31), LATER);
        due("decrease(1, 25)", x.decrease(1, 25), 0);
        due("decrease(1, 10): at the floor", x.decrease(1, 10), 1);
        due("the floor stays", x.floor(0), 10);
        due("drain(0, 1, 1)", x.drain(0, 1, 1), 1);
        due("decrease by the heap it is in", x.decrease(1, 5), 1);
        due("decrease in the heap left", x.decrease(2, 9), BELOW);
    }

    private static void delete() {
        CHECKS.part("promise 9");
        for (int number : NEVER_NUMBERS) {
            due("delete(" + number + ")", withAbsorbed().delete(number), UNKNOWN);
        }
        due("delete(2)", withAbsorbed().delete(2), UNKNOWN);
        MeldingHeaps x = withAbsorbed();
        due("delete after a meld", x.delete(1), 0);
        due("delete again", x.delete(1), REMOVED);
        due("size(0)", x.size(0), 1);
        due("key(1)", x.key(1), 0);
        MeldingHeaps y = withHeaps(TWO_ENDED, ASCENDING, MONOTONE, ASCENDING);
        fill(y, 0, 0, 1, 2, 3);
        fill(y, 1, 3, 4, 6, 5);
        due("delete the last", y.delete(2), 0);
        due("last(0)", y.last(0), 1);
        due("delete the first", y.delete(0), 0);
        due("first(0)", y.first(0), 1);
        due("delete the only one", y.delete(1), 0);
        due("first(0)", y.first(0), NONE);
        due("take(1)", y.take(1), 3);
        due("delete the first of a MONOTONE heap", y.delete(5), 1);
        due("the floor stays", y.floor(1), 4);
        due("take(1)", y.take(1), 4);
        due("delete of a taken one", y.delete(4), REMOVED);
    }

    private static void meld() {
        CHECKS.part("promise 10");
        MeldingHeaps x = withHeaps(MELDABLE, LOW, MELDABLE, LOW, MELDABLE, LOW);
        fill(x, 1, 0, 65537, 5);
        fill(x, 0, 2, 1, 4);
        due("meld(0, 1)", x.meld(0, 1), 4);
        for (int entry = 0; entry < 4; entry++) {
            due("owner(" + entry + ")", x.owner(entry), 0);
            due("value(" + entry + ")", x.value(entry), 100 + entry);
        }
        due("key(0)", x.key(0), 65537);
        due("first(0)", x.first(0), 0);
        due("before(2)", x.before(2), 1);
        due("size(1)", x.size(1), ABSORBED);
        due("meld(2, 0): into an empty one", x.meld(2, 0), 4);
        due("owner(0)", x.owner(0), 2);
        due("size(0)", x.size(0), ABSORBED);
        takeAll(x, 2, 0, 2, 3, 1);
        MeldingHeaps y = withHeaps(MELDABLE, UNSIGNED, MELDABLE, UNSIGNED);
        due("meld of two empty ones", y.meld(1, 0), 0);
        due("size(1)", y.size(1), 0);
        due("size(0)", y.size(0), ABSORBED);
        due("floor of an absorbed heap", y.floor(0), MIN);
    }

    private static void meldRefusals() {
        MeldingHeaps x = withHeaps(MELDABLE, ASCENDING, MELDABLE, ASCENDING, MELDABLE, DESCENDING,
            TWO_ENDED, ASCENDING, MONOTONE, ASCENDING, TWO_ENDED, ASCENDING, MONOTONE, ASCENDING);
        fill(x, 0, 0, 1);
        fill(x, 3, 1, 1);
        due("meld(0, 0)", x.meld(0, 0), UNLIKE);
        due("meld(0, 2): other orders", x.meld(0, 2), UNLIKE);
        due("meld(2, 0): other orders", x.meld(2, 0), UNLIKE);
        due("meld(0, 3)", x.meld(0, 3), UNLIKE);
        due("meld(3, 0)", x.meld(3, 0), UNLIKE);
        due("meld(0, 4)", x.meld(0, 4), UNLIKE);
        due("meld(4, 0)", x.meld(4, 0), UNLIKE);
        due("meld(3, 5): both TWO-ENDED", x.meld(3, 5), UNLIKE);
        due("meld(4, 6): both MONOTONE", x.meld(4, 6), UNLIKE);
        due("size(0) after refusals", x.size(0), 1);
        due("size(3) after refusals", x.size(3), 1);
        due("owner(1) after refusals", x.owner(1), 3);
        due("meld(0, 1)", x.meld(0, 1), 1);
        due("meld(1, 7): ABSORBED of the heap first", x.meld(1, 7), ABSORBED);
        due("meld(7, 1): UNKNOWN of the heap first", x.meld(7, 1), UNKNOWN);
        due("meld(1, 1)", x.meld(1, 1), ABSORBED);
        due("meld(7, 7)", x.meld(7, 7), UNKNOWN);
        due("meld(0, 1)", x.meld(0, 1), ABSORBED);
        due("meld(3, 1): ABSORBED before UNLIKE", x.meld(3, 1), ABSORBED);
        due("meld(1, 3): ABSORBED before UNLIKE", x.meld(1, 3), ABSORBED);
        for (int number : NEVER_NUMBERS) {
            due("meld(0, " + number + ")", x.meld(0, number), UNKNOWN);
            due("meld(" + number + ", 0)", x.meld(number, 0), UNKNOWN);
            due("meld(3, " + number + ")", x.meld(3, number), UNKNOWN);
        }
        due("size(0)", x.size(0), 1);
    }

    private static void drain() {
        CHECKS.part("promise 11");
        for (int kind = 0; kind < 3; kind++) {
            for (int otherKind = 0; otherKind < 3; otherKind++) {
                MeldingHeaps x = withHeaps(kind, ASCENDING, otherKind, DESCENDING);
                fill(x, 0, 0, 4, 2, 3, 2);
                fill(x, 1, 4, 3);
                due("drain(0, 1, 3)", x.drain(0, 1, 3), 3);
                due("size(0)", x.size(0), 1);
                due("size(1)", x.size(1), 4);
                due("owner(0)", x.owner(0), 0);
                due("owner(2)", x.owner(2), 1);
                due("key(2)", x.key(2), 3);
                due("value(2)", x.value(2), 102);
                due("floor of the heap", x.floor(0), kind == MONOTONE ? 3 : MIN);
                due("floor of the other", x.floor(1), MIN);
                due("before(4)", x.before(4), 1);
                takeAll(x, 1, 2, 4, 1, 3);
                takeAll(x, 0, 0);
            }
        }
    }

    private static void drainEnds() {
        MeldingHeaps x = withHeaps(TWO_ENDED, ASCENDING, MELDABLE, ASCENDING);
        due("drain of an empty heap", x.drain(0, 1, 5), 0);
        fill(x, 0, 0, 1, 2, 3);
        due("drain(0, 1, 0)", x.drain(0, 1, 0), 0);
        due("drain(0, 1, -1)", x.drain(0, 1, -1), 0);
        due("drain(0, 1, MIN)", x.drain(0, 1, Integer.MIN_VALUE), 0);
        due("size(0)", x.size(0), 3);
        due("drain(0, 1, 1)", x.drain(0, 1, 1), 1);
        due("owner(0)", x.owner(0), 1);
        due("drain(0, 1, MAX)", x.drain(0, 1, Integer.MAX_VALUE), 2);
        due("size(0)", x.size(0), 0);
        due("size(1)", x.size(1), 3);
        due("drain back", x.drain(1, 0, 3), 3);
        due("the heap is no absorbed one", x.insert(1, 0, 0), 3);
        due("owner(2)", x.owner(2), 0);
    }

    private static void drainFloors() {
        MeldingHeaps x = withHeaps(MONOTONE, ASCENDING, MONOTONE, DESCENDING, MELDABLE, LOW);
        fill(x, 1, 0, 20);
        due("take(1)", x.take(1), 0);
        fill(x, 0, 1, 19, 20, 21, 18);
        due("drain stops at the floor of the other", x.drain(0, 1, 9), 3);
        due("the one that stays", x.first(0), 3);
        due("floor of the heap: the last one gone", x.floor(0), 20);
        due("floor of the other stays", x.floor(1), -21);
        due("drain stops at once", x.drain(0, 1, 1), 0);
        due("floor after no one has gone", x.floor(0), 20);
        due("size(0)", x.size(0), 1);
        due("before in the order of the other", x.before(4), 2);
        due("drain back: 20 is at the floor, 19 below", x.drain(1, 0, 3), 1);
        due("floor(1)", x.floor(1), -21);
        due("owner(2)", x.owner(2), 0);
        due("first(0)", x.first(0), 2);
        fill(x, 2, 5, 65536 + 3);
        due("drain from LOW: 65539", x.drain(2, 0, 1), 1);
        due("drain to LOW", x.drain(0, 2, 9), 3);
        due("floor(0): its own order", x.floor(0), 65539);
        takeAll(x, 2, 5, 2, 3);
        fill(x, 0, 6, 65539);
        due("insert below the new floor", x.insert(0, 65538, 0), BELOW);
        due("drain with n 0 leaves the floor", x.drain(0, 2, 0), 0);
        due("owner(6)", x.owner(6), 0);
    }

    private static void drainRefusals() {
        MeldingHeaps x = withAbsorbed();
        due("drain(0, 0, 1)", x.drain(0, 0, 1), UNLIKE);
        due("drain(0, 0, 0)", x.drain(0, 0, 0), UNLIKE);
        due("drain(1, 1, 1)", x.drain(1, 1, 1), ABSORBED);
        due("drain(2, 2, 1)", x.drain(2, 2, 1), UNKNOWN);
        due("drain(1, 2, 1)", x.drain(1, 2, 1), ABSORBED);
        due("drain(2, 1, 1)", x.drain(2, 1, 1), UNKNOWN);
        due("drain(0, 1, 0)", x.drain(0, 1, 0), ABSORBED);
        due("drain(1, 0, -1)", x.drain(1, 0, -1), ABSORBED);
        due("drain(0, 2, 1)", x.drain(0, 2, 1), UNKNOWN);
        for (int number : NEVER_NUMBERS) {
            due("drain(0, " + number + ", 1)", x.drain(0, number, 1), UNKNOWN);
            due("drain(" + number + ", 0, 0)", x.drain(number, 0, 0), UNKNOWN);
        }
        due("size(0)", x.size(0), 2);
    }

    private static void clear() {
        CHECKS.part("promise 12");
        for (int number : NEVER_NUMBERS) {
            due("clear(" + number + ")", withAbsorbed().clear(number), UNKNOWN);
        }
        due("clear(2)", withAbsorbed().clear(2), UNKNOWN);
        due("clear(1)", withAbsorbed().clear(1), ABSORBED);
        due("clear(0)", withAbsorbed().clear(0), 2);
        MeldingHeaps x = withHeaps(MONOTONE, ASCENDING, TWO_ENDED, ASCENDING);
        due("clear of an empty heap", x.clear(0), 0);
        fill(x, 0, 0, 1, 2, 3);
        fill(x, 1, 3, 1);
        due("take(0)", x.take(0), 0);
        due("clear(0)", x.clear(0), 2);
        due("floor(0)", x.floor(0), MIN);
        due("size(0)", x.size(0), 0);
        due("owner(0)", x.owner(0), REMOVED);
        due("owner(1)", x.owner(1), REMOVED);
        due("owner(2)", x.owner(2), REMOVED);
        due("owner(3)", x.owner(3), 1);
        due("insert(0, MIN, 0)", x.insert(0, MIN, 0), 4);
        due("delete(4)", x.delete(4), 0);
        fill(x, 0, 5, 9);
        due("take(0)", x.take(0), 5);
        due("floor(0)", x.floor(0), 9);
        due("clear of an emptied heap", x.clear(0), 0);
        due("its floor is the lowest again", x.floor(0), MIN);
        due("clear(1)", x.clear(1), 1);
        due("first(1)", x.first(1), NONE);
    }

    private static void size() {
        CHECKS.part("promise 13");
        for (int number : NEVER_NUMBERS) {
            due("size(" + number + ")", withAbsorbed().size(number), UNKNOWN);
        }
        due("size(2)", withAbsorbed().size(2), UNKNOWN);
        due("size(1)", withAbsorbed().size(1), ABSORBED);
        due("size(0)", withAbsorbed().size(0), 2);
        MeldingHeaps x = withHeaps(TWO_ENDED, ASCENDING, MONOTONE, ASCENDING);
        due("size(0)", x.size(0), 0);
        fill(x, 0, 0, 1, 1, 1, 1);
        due("size(0)", x.size(0), 4);
        x.take(0);
        x.takeLast(0);
        due("size(0) after two were taken", x.size(0), 2);
        x.delete(1);
        due("size(0) after a delete", x.size(0), 1);
        x.drain(0, 1, 1);
        due("size(0) after a drain", x.size(0), 0);
        due("size(1) after a drain", x.size(1), 1);
    }

    private static void floor() {
        CHECKS.part("promise 14");
        for (int number : NEVER_NUMBERS) {
            due("floor(" + number + ")", withAbsorbed().floor(number), MIN);
        }
        due("floor(2)", withAbsorbed().floor(2), MIN);
        due("floor of an absorbed heap", withAbsorbed().floor(1), MIN);
        MeldingHeaps x = withHeaps(MELDABLE, ASCENDING, TWO_ENDED, ASCENDING, MONOTONE, UNSIGNED);
        fill(x, 0, 0, 5, 6);
        fill(x, 1, 2, 5, 6);
        fill(x, 2, 4, 5, 6);
        for (int heap = 0; heap < 3; heap++) {
            due("floor before the first take", x.floor(heap), MIN);
            due("take(" + heap + ")", x.take(heap), heap * 2);
        }
        due("floor of a MELDABLE heap", x.floor(0), MIN);
        due("floor of a TWO-ENDED heap", x.floor(1), MIN);
        due("floor of a MONOTONE heap", x.floor(2), MIN + 5);
        due("insert of a less key: MELDABLE", x.insert(0, 1, 0), 6);
        due("insert of a less key: TWO-ENDED", x.insert(1, 1, 0), 7);
        due("insert of a less key: MONOTONE", x.insert(2, 1, 0), BELOW);
    }

    private static void keyAndValue() {
        for (int number : NEVER_NUMBERS) {
            CHECKS.part("promise 15");
            due("key(" + number + ")", withAbsorbed().key(number), 0);
            CHECKS.part("promise 16");
            due("value(" + number + ")", withAbsorbed().value(number), 0);
        }
        MeldingHeaps x = withHeaps(TWO_ENDED, ASCENDING);
        CHECKS.part("promise 15 and 16");
        due("key(0): not yet inserted", x.key(0), 0);
        due("value(0): not yet inserted", x.value(0), 0);
        x.insert(0, MAX, Integer.MIN_VALUE);
        x.insert(0, MIN, -2);
        x.insert(0, 5, Integer.MAX_VALUE);
        x.insert(0, 6, 6);
        due("key(0)", x.key(0), MAX);
        due("value(0)", x.value(0), Integer.MIN_VALUE);
        due("key(1)", x.key(1), MIN);
        due("value(1)", x.value(1), -2);
        due("value(2)", x.value(2), Integer.MAX_VALUE);
        due("decrease(0, 7)", x.decrease(0, 7), 0);
        due("key(0) after decrease", x.key(0), 7);
        due("value(0) after decrease", x.value(0), Integer.MIN_VALUE);
        due("take", x.take(0), 1);
        due("takeLast", x.takeLast(0), 0);
        due("delete", x.delete(2), 0);
        due("clear", x.clear(0), 1);
        for (int entry = 0; entry < 4; entry++) {
            due("key of a removed one", x.key(entry), 0);
            due("value of a removed one", x.value(entry), 0);
        }
    }

    private static void owner() {
        CHECKS.part("promise 17");
        for (int number : NEVER_NUMBERS) {
            due("owner(" + number + ")", withAbsorbed().owner(number), UNKNOWN);
        }
        due("owner(2)", withAbsorbed().owner(2), UNKNOWN);
        due("owner(1) after a meld", withAbsorbed().owner(1), 0);
        MeldingHeaps x = withHeaps(TWO_ENDED, ASCENDING, MONOTONE, DESCENDING);
        fill(x, 0, 0, 1, 2, 3, 4, 5);
        due("owner(0)", x.owner(0), 0);
        x.drain(0, 1, 2);
        due("owner(0) after a drain", x.owner(0), 1);
        due("owner(1) after a drain", x.owner(1), 1);
        due("owner(2) after a drain", x.owner(2), 0);
        x.take(1);
        due("owner(1) after a take", x.owner(1), REMOVED);
        x.takeLast(0);
        due("owner(4) after a takeLast", x.owner(4), REMOVED);
        x.delete(2);
        due("owner(2) after a delete", x.owner(2), REMOVED);
        x.clear(0);
        due("owner(3) after a clear", x.owner(3), REMOVED);
        due("owner(0) is in another heap", x.owner(0), 1);
    }

    private static void before() {
        CHECKS.part("promise 18");
        for (int number : NEVER_NUMBERS) {
            due("before(" + number + ")", withAbsorbed().before(number), UNKNOWN);
        }
        due("before(2)", withAbsorbed().before(2), UNKNOWN);
        for (int kind = 0; kind < 3; kind++) {
            MeldingHeaps x = withHeaps(kind, ASCENDING, kind, DESCENDING, kind, UNSIGNED, kind, LOW);
            int[][] places = {{3, 2, 0, 4, 1}, {1, 2, 4, 0, 3}, {2, 1, 4, 3, 0}, {2, 3, 4, 0, 1}};
            for (int heap = 0; heap < 4; heap++) {
                fill(x, heap, heap * 5, 2, heap == LOW ? 65538 : 1, -1, 65536, 0);
            }
            for (int heap = 0; heap < 4; heap++) {
                for (int i = 0; i < 5; i++) {
                    due("before(" + (heap * 5 + i) + ")", x.before(heap * 5 + i), places[heap][i]);
                }
            }
            due("take(0)", x.take(0), 2);
            due("before of a removed one", x.before(2), REMOVED);
            due("before the second is none then", x.before(4), 0);
            due("delete(4)", x.delete(4), 0);
            due("before after a delete", x.before(3), 2);
        }
    }
}
