import java.util.ArrayList;
import java.util.List;
import java.util.function.Consumer;
import java.util.function.ToLongFunction;

/**
 * A state that can be made as often as wanted: the same calls on a new object each time. Everything
 * that can be asked in it, or after one call more, can be written down and compared.
 *
 * Each row of questions gets an object of its own, since an object is good for 512 calls only and
 * since some questions (take, insert, meld) change what they ask about.
 */
final class Scene {
    private static final int HEAPS = 12;
    private static final int ENTRIES = 160;
    private static final long[] PROBES = {
        Long.MIN_VALUE, -65536L, -1L, 0L, 1L, 20L, 65535L, Long.MAX_VALUE,
    };

    private final Consumer<MeldingHeaps> calls;

    Scene(Consumer<MeldingHeaps> calls) {
        this.calls = calls;
    }

    /** This state and then these calls. */
    Scene then(Consumer<MeldingHeaps> more) {
        return new Scene(calls.andThen(more));
    }

    MeldingHeaps make() {
        MeldingHeaps x = new MeldingHeaps();
        calls.accept(x);
        return x;
    }

    /** All answers of this state, one text each, in the same order for every state. */
    List<String> answers() {
        List<String> found = new ArrayList<>();
        askHeaps(found);
        askEntries(found, "key", MeldingHeaps::key);
        askEntries(found, "value", MeldingHeaps::value);
        askEntries(found, "owner", MeldingHeaps::owner);
        askEntries(found, "before", MeldingHeaps::before);
        for (int heap = 0; heap < HEAPS; heap++) {
            takeAll(found, heap);
        }
        for (long key : PROBES) {
            insertEverywhere(found, key);
        }
        for (int order = 0; order < 4; order++) {
            meldAll(found, order);
        }
        return found;
    }

    private interface EntryQuestion {
        long ask(MeldingHeaps x, int entry);
    }

    private static void write(List<String> found, String call, long answer) {
        found.add(call + " = " + answer);
    }

    private void askHeaps(List<String> found) {
        MeldingHeaps x = make();
        for (int heap = -1; heap <= HEAPS; heap++) {
            write(found, "size(" + heap + ")", x.size(heap));
            write(found, "first(" + heap + ")", x.first(heap));
            write(found, "last(" + heap + ")", x.last(heap));
            write(found, "floor(" + heap + ")", x.floor(heap));
        }
    }

    private void askEntries(List<String> found, String name, EntryQuestion question) {
        MeldingHeaps x = make();
        for (int entry = -1; entry <= ENTRIES; entry++) {
            write(found, name + "(" + entry + ")", question.ask(x, entry));
        }
    }

    /** The rows have one length for all states, so that the same question has the same place. */
    private void takeAll(List<String> found, int heap) {
        MeldingHeaps x = make();
        StringBuilder taken = new StringBuilder();
        int entry = x.take(heap);
        for (int count = 0; count < ENTRIES && entry >= 0; count++) {
            taken.append(entry).append(' ');
            entry = x.take(heap);
        }
        found.add("take(" + heap + ") until there is none: " + taken + entry);
        write(found, "floor(" + heap + ") after all were taken", x.floor(heap));
    }

    private void insertEverywhere(List<String> found, long key) {
        MeldingHeaps x = make();
        for (int heap = 0; heap < HEAPS; heap++) {
            write(found, "insert(" + heap + ", " + key + ", 9)", x.insert(heap, key, 9));
        }
    }

    /** Tells which heaps are MELDABLE and of this order, and which number is the next one to be given. */
    private void meldAll(List<String> found, int order) {
        MeldingHeaps x = make();
        int opened = x.open(0, order);
        write(found, "open(0, " + order + ")", opened);
        for (int heap = 0; heap < HEAPS; heap++) {
            write(found, "meld of that one and " + heap, x.meld(opened, heap));
        }
    }

    /** The first answer that the call has changed, or an empty text if it has changed none. */
    static String firstChange(List<String> before, List<String> after) {
        for (int i = 0; i < before.size(); i++) {
            if (!before.get(i).equals(after.get(i))) {
                return before.get(i) + " became " + after.get(i);
            }
        }
        return "";
    }

    Scene after(ToLongFunction<MeldingHeaps> call) {
        return then(x -> call.applyAsLong(x));
    }
}
