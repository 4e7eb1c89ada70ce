import java.util.ArrayList;
import java.util.List;
import java.util.TreeSet;

/** The document once more, built another way than the program: each heap is a sorted set of entries. */
final class Model {
    private static final class Entry {
        final int number;
        final int value;
        long key;
        Heap heap;

        Entry(int number, long key, int value, Heap heap) {
            this.number = number;
            this.key = key;
            this.value = value;
            this.heap = heap;
        }
    }

    private static final class Heap {
        final int number;
        final int kind;
        final int order;
        final TreeSet<Entry> entries = new TreeSet<>(this::compare);
        long floor = Long.MIN_VALUE;
        boolean absorbed = false;

        Heap(int number, int kind, int order) {
            this.number = number;
            this.kind = kind;
            this.order = order;
        }

        int compareKeys(long a, long b) {
            return switch (order) {
                case 0 -> Long.compare(a, b);
                case 1 -> Long.compare(b, a);
                case 2 -> Long.compareUnsigned(a, b);
                default -> Integer.compare((char) a, (char) b);
            };
        }

        int compare(Entry a, Entry b) {
            int byKey = compareKeys(a.key, b.key);
            return byKey != 0 ? byKey : Integer.compare(a.number, b.number);
        }

        long weight(long key) {
            return switch (order) {
                case 0 -> key;
                case 1 -> ~key;
                case 2 -> key + Long.MIN_VALUE;
                default -> (char) key;
            };
        }

        boolean letsIn(long key) {
            return kind != 2 || weight(key) >= floor;
        }

        boolean holdsBelowFloor() {
            return !entries.isEmpty() && !letsIn(entries.first().key);
        }

        Entry pollFirst() {
            Entry entry = entries.pollFirst();
            if (kind == 2) {
                floor = weight(entry.key);
            }
            return entry;
        }
    }

    private final List<Heap> heaps = new ArrayList<>();
    private final List<Entry> entries = new ArrayList<>();

    int heapCount() {
        return heaps.size();
    }

    int entryCount() {
        return entries.size();
    }

    /** How many heaps hold an entry that their floor would not let in. */
    int heapsWithEntryBelowFloor() {
        int count = 0;
        for (Heap heap : heaps) {
            count += heap.holdsBelowFloor() ? 1 : 0;
        }
        return count;
    }

    private int heapFault(int heap) {
        if (heap < 0 || heap >= heaps.size()) {
            return -2;
        }
        return heaps.get(heap).absorbed ? -3 : 0;
    }

    private int pairFault(int heap, int other) {
        if (heapFault(heap) != 0) {
            return heapFault(heap);
        }
        if (heapFault(other) != 0) {
            return heapFault(other);
        }
        return heap == other ? -7 : 0;
    }

    private int entryFault(int entry) {
        if (entry < 0 || entry >= entries.size()) {
            return -2;
        }
        return entries.get(entry).heap == null ? -4 : 0;
    }

    int open(int kind, int order) {
        if (kind < 0 || kind > 2 || order < 0 || order > 3) {
            return -2;
        }
        if (heaps.size() == 12) {
            return -8;
        }
        heaps.add(new Heap(heaps.size(), kind, order));
        return heaps.size() - 1;
    }

    int insert(int heap, long key, int value) {
        if (heapFault(heap) != 0) {
            return heapFault(heap);
        }
        Heap home = heaps.get(heap);
        if (!home.letsIn(key)) {
            return -6;
        }
        if (entries.size() == 160) {
            return -8;
        }
        Entry entry = new Entry(entries.size(), key, value, home);
        entries.add(entry);
        home.entries.add(entry);
        return entry.number;
    }

    int first(int heap) {
        if (heapFault(heap) != 0) {
            return heapFault(heap);
        }
        TreeSet<Entry> all = heaps.get(heap).entries;
        return all.isEmpty() ? -1 : all.first().number;
    }

    int last(int heap) {
        if (heapFault(heap) != 0) {
            return heapFault(heap);
        }
        if (heaps.get(heap).kind != 1) {
            return -7;
        }
        TreeSet<Entry> all = heaps.get(heap).entries;
        return all.isEmpty() ? -1 : all.last().number;
    }

    int take(int heap) {
        int number = first(heap);
        if (number >= 0) {
            heaps.get(heap).pollFirst().heap = null;
        }
        return number;
    }

    int takeLast(int heap) {
        int number = last(heap);
        if (number >= 0) {
            heaps.get(heap).entries.pollLast().heap = null;
        }
        return number;
    }

    int decrease(int number, long key) {
        if (entryFault(number) != 0) {
            return entryFault(number);
        }
        Entry entry = entries.get(number);
        Heap heap = entry.heap;
        if (heap.compareKeys(key, entry.key) > 0) {
            return -5;
        }
        if (!heap.letsIn(key)) {
            return -6;
        }
        heap.entries.remove(entry);
        entry.key = key;
        heap.entries.add(entry);
        return heap.entries.first() == entry ? 1 : 0;
    }

    int delete(int number) {
        if (entryFault(number) != 0) {
            return entryFault(number);
        }
        Entry entry = entries.get(number);
        Heap heap = entry.heap;
        heap.entries.remove(entry);
        entry.heap = null;
        return heap.number;
    }

    int meld(int heap, int other) {
        if (pairFault(heap, other) != 0) {
            return pairFault(heap, other);
        }
        Heap to = heaps.get(heap);
        Heap from = heaps.get(other);
        if (to.kind != 0 || from.kind != 0 || to.order != from.order) {
            return -7;
        }
        for (Entry entry : from.entries) {
            entry.heap = to;
            to.entries.add(entry);
        }
        from.entries.clear();
        from.absorbed = true;
        return to.entries.size();
    }

    int drain(int heap, int other, int n) {
        if (pairFault(heap, other) != 0) {
            return pairFault(heap, other);
        }
        Heap from = heaps.get(heap);
        Heap to = heaps.get(other);
        int gone = 0;
        while (gone < n && !from.entries.isEmpty() && to.letsIn(from.entries.first().key)) {
            Entry entry = from.pollFirst();
            entry.heap = to;
            to.entries.add(entry);
            gone++;
        }
        return gone;
    }

    int clear(int heap) {
        if (heapFault(heap) != 0) {
            return heapFault(heap);
        }
        Heap home = heaps.get(heap);
        int count = home.entries.size();
        for (Entry entry : home.entries) {
            entry.heap = null;
        }
        home.entries.clear();
        home.floor = Long.MIN_VALUE;
        return count;
    }

    int size(int heap) {
        return heapFault(heap) != 0 ? heapFault(heap) : heaps.get(heap).entries.size();
    }

    long floor(int heap) {
        return heap < 0 || heap >= heaps.size() ? Long.MIN_VALUE : heaps.get(heap).floor;
    }

    long key(int entry) {
        return entryFault(entry) != 0 ? 0L : entries.get(entry).key;
    }

    int value(int entry) {
        return entryFault(entry) != 0 ? 0 : entries.get(entry).value;
    }

    int owner(int entry) {
        return entryFault(entry) != 0 ? entryFault(entry) : entries.get(entry).heap.number;
    }

    int before(int entry) {
        if (entryFault(entry) != 0) {
            return entryFault(entry);
        }
        Entry found = entries.get(entry);
        return found.heap.entries.headSet(found).size();
    }
}
