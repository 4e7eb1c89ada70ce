/**
 * Priority queues whose entries keep their numbers wherever they go.
 *
 * The heaps hold no lists of their own: each entry knows the heap that it is in, and first and last
 * are searched for among all entries. With at most 160 entries and 512 calls that is quick enough,
 * and melding, draining and deleting come down to changing one number for each entry.
 */
public final class MeldingHeaps {
    public static final int NONE = -1;
    public static final int UNKNOWN = -2;
    public static final int ABSORBED = -3;
    public static final int REMOVED = -4;
    public static final int LATER = -5;
    public static final int BELOW = -6;
    public static final int UNLIKE = -7;
    public static final int FULL = -8;

    private static final int MOST_HEAPS = 12;
    private static final int MOST_ENTRIES = 160;

    private static final int MELDABLE = 0;
    private static final int TWO_ENDED = 1;
    private static final int MONOTONE = 2;

    private static final int ASCENDING = 0;
    private static final int DESCENDING = 1;
    private static final int UNSIGNED = 2;
    private static final int LOW = 3;

    private static final long SIGN_BIT = 0x8000000000000000L;
    private static final long LOW_BITS = 0xFFFFL;
    private static final long LOWEST_FLOOR = SIGN_BIT;

    // No refusal is 0, so 0 is free to say that there is none.
    private static final int NO_REFUSAL = 0;

    private final int[] kinds;
    private final int[] orders;
    private final boolean[] absorbed;
    // Heaps that are not MONOTONE keep the lowest floor for good, so no weight is ever below it.
    private final long[] floors;
    private int heapCount;

    private final long[] keys;
    private final int[] values;
    // The heap that the entry is in, or REMOVED, which is no heap's number.
    private final int[] owners;
    private int entryCount;

    public MeldingHeaps() {
        kinds = new int[MOST_HEAPS];
        orders = new int[MOST_HEAPS];
        absorbed = new boolean[MOST_HEAPS];
        floors = new long[MOST_HEAPS];
        heapCount = 0;
        keys = new long[MOST_ENTRIES];
        values = new int[MOST_ENTRIES];
        owners = new int[MOST_ENTRIES];
        entryCount = 0;
    }

    public int open(int kind, int order) {
        if (kind < MELDABLE || kind > MONOTONE || order < ASCENDING || order > LOW) {
            return UNKNOWN;
        }
        if (heapCount >= MOST_HEAPS) {
            return FULL;
        }
        int heap = heapCount;
        kinds[heap] = kind;
        orders[heap] = order;
        absorbed[heap] = false;
        floors[heap] = LOWEST_FLOOR;
        heapCount++;
        return heap;
    }

    public int insert(int heap, long key, int value) {
        int refusal = refusalOfHeap(heap);
        if (refusal != NO_REFUSAL) {
            return refusal;
        }
        if (isBelowFloor(heap, key)) {
            return BELOW;
        }
        if (entryCount >= MOST_ENTRIES) {
            return FULL;
        }
        int entry = entryCount;
        keys[entry] = key;
        values[entry] = value;
        owners[entry] = heap;
        entryCount++;
        return entry;
    }

    public int first(int heap) {
        int refusal = refusalOfHeap(heap);
        return refusal != NO_REFUSAL ? refusal : findFirst(heap);
    }

    public int last(int heap) {
        int refusal = refusalOfLastOf(heap);
        return refusal != NO_REFUSAL ? refusal : findLast(heap);
    }

    public int take(int heap) {
        int entry = first(heap);
        if (entry >= 0) {
            raiseFloor(heap, keys[entry]);
            owners[entry] = REMOVED;
        }
        return entry;
    }

    public int takeLast(int heap) {
        int entry = last(heap);
        if (entry >= 0) {
            owners[entry] = REMOVED;
        }
        return entry;
    }

    public int decrease(int entry, long key) {
        int refusal = refusalOfEntry(entry);
        if (refusal != NO_REFUSAL) {
            return refusal;
        }
        int heap = owners[entry];
        // LATER first, as the document names it; the two never fit together, since nothing is below
        // the floor of the heap that it is in.
        if (weight(orders[heap], key) > weight(orders[heap], keys[entry])) {
            return LATER;
        }
        if (isBelowFloor(heap, key)) {
            return BELOW;
        }
        keys[entry] = key;
        return findFirst(heap) == entry ? 1 : 0;
    }

    public int delete(int entry) {
        int heap = owner(entry);
        if (heap >= 0) {
            owners[entry] = REMOVED;
        }
        return heap;
    }

    public int meld(int heap, int other) {
        int refusal = refusalOfPair(heap, other);
        if (refusal != NO_REFUSAL) {
            return refusal;
        }
        if (kinds[heap] != MELDABLE || kinds[other] != MELDABLE || orders[heap] != orders[other]) {
            return UNLIKE;
        }
        handOverAll(other, heap);
        absorbed[other] = true;
        return countEntries(heap);
    }

    public int drain(int heap, int other, int n) {
        int refusal = refusalOfPair(heap, other);
        if (refusal != NO_REFUSAL) {
            return refusal;
        }
        int most = Math.min(n, countEntries(heap));
        int gone = 0;
        while (gone < most) {
            int entry = findFirst(heap);
            if (entry < 0 || isBelowFloor(other, keys[entry])) {
                break;
            }
            raiseFloor(heap, keys[entry]);
            owners[entry] = other;
            gone++;
        }
        return gone;
    }

    public int clear(int heap) {
        int refusal = refusalOfHeap(heap);
        if (refusal != NO_REFUSAL) {
            return refusal;
        }
        floors[heap] = LOWEST_FLOOR;
        return handOverAll(heap, REMOVED);
    }

    public int size(int heap) {
        int refusal = refusalOfHeap(heap);
        return refusal != NO_REFUSAL ? refusal : countEntries(heap);
    }

    public long floor(int heap) {
        return isHeap(heap) ? floors[heap] : LOWEST_FLOOR;
    }

    public long key(int entry) {
        return refusalOfEntry(entry) == NO_REFUSAL ? keys[entry] : 0L;
    }

    public int value(int entry) {
        return refusalOfEntry(entry) == NO_REFUSAL ? values[entry] : 0;
    }

    public int owner(int entry) {
        int refusal = refusalOfEntry(entry);
        return refusal != NO_REFUSAL ? refusal : owners[entry];
    }

    public int before(int entry) {
        int refusal = refusalOfEntry(entry);
        return refusal != NO_REFUSAL ? refusal : countBefore(owners[entry], entry);
    }

    private boolean isHeap(int heap) {
        return heap >= 0 && heap < heapCount;
    }

    private boolean isEntry(int entry) {
        return entry >= 0 && entry < entryCount;
    }

    private int refusalOfHeap(int heap) {
        if (!isHeap(heap)) {
            return UNKNOWN;
        }
        return absorbed[heap] ? ABSORBED : NO_REFUSAL;
    }

    private int refusalOfLastOf(int heap) {
        int refusal = refusalOfHeap(heap);
        if (refusal != NO_REFUSAL) {
            return refusal;
        }
        return kinds[heap] == TWO_ENDED ? NO_REFUSAL : UNLIKE;
    }

    private int refusalOfPair(int heap, int other) {
        int refusal = refusalOfHeap(heap);
        if (refusal == NO_REFUSAL) {
            refusal = refusalOfHeap(other);
        }
        if (refusal != NO_REFUSAL) {
            return refusal;
        }
        return heap == other ? UNLIKE : NO_REFUSAL;
    }

    private int refusalOfEntry(int entry) {
        if (!isEntry(entry)) {
            return UNKNOWN;
        }
        return owners[entry] == REMOVED ? REMOVED : NO_REFUSAL;
    }

    private static long weight(int order, long key) {
        switch (order) {
            case DESCENDING:
                return -1L - key;
            case UNSIGNED:
                return key ^ SIGN_BIT;
            case LOW:
                return key & LOW_BITS;
            default:
                return key;
        }
    }

    private boolean isBelowFloor(int heap, long key) {
        return weight(orders[heap], key) < floors[heap];
    }

    private void raiseFloor(int heap, long key) {
        if (kinds[heap] == MONOTONE) {
            floors[heap] = weight(orders[heap], key);
        }
    }

    private boolean isBefore(int order, int entry, int other) {
        long ownWeight = weight(order, keys[entry]);
        long otherWeight = weight(order, keys[other]);
        return ownWeight < otherWeight || (ownWeight == otherWeight && entry < other);
    }

    private int findFirst(int heap) {
        int found = NONE;
        for (int entry = 0; entry < entryCount; entry++) {
            if (owners[entry] == heap
                    && (found == NONE || isBefore(orders[heap], entry, found))) {
                found = entry;
            }
        }
        return found;
    }

    private int findLast(int heap) {
        int found = NONE;
        for (int entry = 0; entry < entryCount; entry++) {
            if (owners[entry] == heap
                    && (found == NONE || isBefore(orders[heap], found, entry))) {
                found = entry;
            }
        }
        return found;
    }

    private int countEntries(int heap) {
        int count = 0;
        for (int entry = 0; entry < entryCount; entry++) {
            if (owners[entry] == heap) {
                count++;
            }
        }
        return count;
    }

    private int countBefore(int heap, int entry) {
        int count = 0;
        for (int other = 0; other < entryCount; other++) {
            if (owners[other] == heap && isBefore(orders[heap], other, entry)) {
                count++;
            }
        }
        return count;
    }

    private int handOverAll(int heap, int newOwner) {
        int count = 0;
        for (int entry = 0; entry < entryCount; entry++) {
            if (owners[entry] == heap) {
                owners[entry] = newOwner;
                count++;
            }
        }
        return count;
    }
}
