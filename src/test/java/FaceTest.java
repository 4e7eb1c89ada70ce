import java.lang.reflect.Constructor;
import java.lang.reflect.Field;
import java.lang.reflect.Method;
import java.lang.reflect.Modifier;
import java.util.TreeSet;

/** The class shows the document's face and no member more. */
public final class FaceTest {
    private static final String[] CONSTANTS = {
        "NONE=-1", "UNKNOWN=-2", "ABSORBED=-3", "REMOVED=-4",
        "LATER=-5", "BELOW=-6", "UNLIKE=-7", "FULL=-8",
    };
    private static final String[] METHODS = {
        "public int MeldingHeaps.open(int,int)",
        "public int MeldingHeaps.insert(int,long,int)",
        "public int MeldingHeaps.first(int)",
        "public int MeldingHeaps.last(int)",
        "public int MeldingHeaps.take(int)",
        "public int MeldingHeaps.takeLast(int)",
        "public int MeldingHeaps.decrease(int,long)",
        "public int MeldingHeaps.delete(int)",
        "public int MeldingHeaps.meld(int,int)",
        "public int MeldingHeaps.drain(int,int,int)",
        "public int MeldingHeaps.clear(int)",
        "public int MeldingHeaps.size(int)",
        "public long MeldingHeaps.floor(int)",
        "public long MeldingHeaps.key(int)",
        "public int MeldingHeaps.value(int)",
        "public int MeldingHeaps.owner(int)",
        "public int MeldingHeaps.before(int)",
    };

    public static void main(String[] args) throws IllegalAccessException {
        Checks checks = new Checks();
        checks.part("the face");
        checks.dueText("the class", Modifier.toString(MeldingHeaps.class.getModifiers()), "public final");
        checks.dueText("constructors", constructors(), "[public MeldingHeaps()]");
        checks.dueText("constants", constants(), sorted(CONSTANTS));
        checks.dueText("methods", methods(), sorted(METHODS));
        checks.end();
    }

    private static String sorted(String[] texts) {
        return new TreeSet<>(java.util.List.of(texts)).toString();
    }

    private static String constructors() {
        TreeSet<String> found = new TreeSet<>();
        for (Constructor<?> each : MeldingHeaps.class.getDeclaredConstructors()) {
            found.add(each.toString());
        }
        return found.toString();
    }

    private static String constants() throws IllegalAccessException {
        TreeSet<String> found = new TreeSet<>();
        for (Field each : MeldingHeaps.class.getDeclaredFields()) {
            if (Modifier.isPrivate(each.getModifiers())) {
                continue;
            }
            boolean isConstant = Modifier.toString(each.getModifiers()).equals("public static final")
                && each.getType() == int.class;
            found.add(isConstant ? each.getName() + "=" + each.getInt(null) : each.toString());
        }
        return found.toString();
    }

    private static String methods() {
        TreeSet<String> found = new TreeSet<>();
        for (Method each : MeldingHeaps.class.getDeclaredMethods()) {
            if (!Modifier.isPrivate(each.getModifiers())) {
                found.add(each.toString());
            }
        }
        return found.toString();
    }
}
