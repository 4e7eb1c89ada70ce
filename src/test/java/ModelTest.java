/**
 * Long runs of mixed calls on the program and on the model; every answer must be the same. The calls
 * are drawn from a fixed seed, so each time they are the same ones. No object gets more than the 512
 * calls that the document allows.
 */
public final class ModelTest {
    private static final int RUNS = 4000;
    private static final int CALLS = 512;
    private static final int WRONG_AT_MOST = 20;
    private static final long[] EDGES = {
        Long.MIN_VALUE, Long.MIN_VALUE + 1, -65536L, -2L, -1L, 0L, 1L, 2L, 65535L, 65536L, 65537L,
        Long.MAX_VALUE - 1, Long.MAX_VALUE,
    };
    private static final int[] NO_NUMBERS = {
        Integer.MIN_VALUE, -8, -4, -3, -2, -1, 12, 160, 161, Integer.MAX_VALUE,
    };

    private final Checks checks;
    private final MeldingHeaps program = new MeldingHeaps();
    private final Model model = new Model();
    private final boolean wideKeys;
    private final boolean oneOrder;
    private final int heapsWanted;
    private final int insertsInTen;
    private long seed;

    private ModelTest(Checks checks, int run) {
        this.checks = checks;
        seed = run * 7919L + 1;
        wideKeys = draw(2) == 0;
        oneOrder = draw(2) == 0;
        heapsWanted = 1 + draw(12);
        insertsInTen = 2 + draw(5);
    }

    public static void main(String[] args) {
        Checks checks = new Checks();
        for (int run = 0; run < RUNS && checks.wrong() < WRONG_AT_MOST; run++) {
            new ModelTest(checks, run).callAll(run);
        }
        checks.end();
    }

    private void callAll(int run) {
        int wrongBefore = checks.wrong();
        // After the first wrong answer the two are in different states, and the rest tells nothing.
        for (int call = 0; call < CALLS && checks.wrong() == wrongBefore; call++) {
            checks.part("run " + run + ", call " + call);
            if (model.heapCount() < heapsWanted && draw(4) == 0 || draw(60) == 0) {
                open();
            } else if (draw(10) < insertsInTen) {
                insert();
            } else if (draw(2) == 0) {
                change();
            } else {
                ask();
            }
            // As long as this holds, LATER and BELOW never fit the same call of decrease.
            checks.due("heaps with an entry below their floor", model.heapsWithEntryBelowFloor(), 0);
        }
    }

    private int draw(int bound) {
        seed ^= seed << 13;
        seed ^= seed >>> 7;
        seed ^= seed << 17;
        return (int) Long.remainderUnsigned(seed * 0x2545F4914F6CDD1DL >>> 20, bound);
    }

    private long drawKey() {
        if (!wideKeys) {
            return draw(8) - 3L;
        }
        return switch (draw(4)) {
            case 0 -> EDGES[draw(EDGES.length)];
            case 1 -> draw(40) - 20L;
            case 2 -> ((draw(9) - 4L) << 16) + draw(4);
            default -> seed;
        };
    }

    private int drawNumber(int count) {
        if (count == 0 || draw(25) == 0) {
            return draw(3) == 0 ? count : NO_NUMBERS[draw(NO_NUMBERS.length)];
        }
        return draw(count);
    }

    private int drawHeap() {
        return drawNumber(model.heapCount());
    }

    private int drawEntry() {
        return drawNumber(model.entryCount());
    }

    private void due(String name, long got, long want, long... args) {
        checks.due(name + java.util.Arrays.toString(args), got, want);
    }

    private void open() {
        int kind = draw(20) == 0 ? draw(9) - 3 : draw(3);
        int order = draw(20) == 0 ? draw(9) - 3 : oneOrder ? heapsWanted % 4 : draw(4);
        due("open", program.open(kind, order), model.open(kind, order), kind, order);
    }

    private void insert() {
        int heap = drawHeap();
        long key = drawKey();
        int value = draw(9) - 4;
        due("insert", program.insert(heap, key, value), model.insert(heap, key, value), heap, key, value);
    }

    private void change() {
        int heap = drawHeap();
        int other = drawHeap();
        int entry = drawEntry();
        switch (draw(20)) {
            case 0, 1, 2, 3 -> due("take", program.take(heap), model.take(heap), heap);
            case 4, 5, 6 -> due("takeLast", program.takeLast(heap), model.takeLast(heap), heap);
            case 7, 8 -> due("delete", program.delete(entry), model.delete(entry), entry);
            case 9 -> due("meld", program.meld(heap, other), model.meld(heap, other), heap, other);
            case 10, 11, 12, 13 -> drain(heap, other);
            case 14 -> {
                if (draw(3) == 0) {
                    due("clear", program.clear(heap), model.clear(heap), heap);
                }
            }
            default -> decrease(entry);
        }
    }

    private void drain(int heap, int other) {
        int n = draw(10) == 0 ? NO_NUMBERS[draw(NO_NUMBERS.length)] : draw(7);
        due("drain", program.drain(heap, other, n), model.drain(heap, other, n), heap, other, n);
    }

    private void decrease(int entry) {
        long key = draw(2) == 0 ? drawKey() : model.key(entry) + draw(5) - 2;
        due("decrease", program.decrease(entry, key), model.decrease(entry, key), entry, key);
    }

    private void ask() {
        int heap = drawHeap();
        int entry = drawEntry();
        switch (draw(8)) {
            case 0 -> due("first", program.first(heap), model.first(heap), heap);
            case 1 -> due("last", program.last(heap), model.last(heap), heap);
            case 2 -> due("size", program.size(heap), model.size(heap), heap);
            case 3 -> due("floor", program.floor(heap), model.floor(heap), heap);
            case 4 -> due("key", program.key(entry), model.key(entry), entry);
            case 5 -> due("value", program.value(entry), model.value(entry), entry);
            case 6 -> due("owner", program.owner(entry), model.owner(entry), entry);
            default -> due("before", program.before(entry), model.before(entry), entry);
        }
    }
}
