import java.io.IOException;
import java.lang.reflect.Field;
import java.lang.reflect.Method;
import java.lang.reflect.Modifier;
import java.nio.file.Files;
import java.nio.file.Path;

/** README.md tells of every member, and its example answers what it says. */
public final class ReadmeTest extends Sentences {
    public static void main(String[] args) throws IOException {
        String text = Files.readString(Path.of("README.md"));
        namesEveryMember(text);
        showsTheExample(text);
        example();
        CHECKS.end();
    }

    private static void namesEveryMember(String text) {
        CHECKS.part("README.md names every member");
        for (Method each : MeldingHeaps.class.getDeclaredMethods()) {
            if (Modifier.isPublic(each.getModifiers())) {
                dueIn(text, "`" + each.getName() + "(");
            }
        }
        for (Field each : MeldingHeaps.class.getDeclaredFields()) {
            if (Modifier.isPublic(each.getModifiers())) {
                dueIn(text, "`" + each.getName() + "`");
            }
        }
    }

    private static void dueIn(String text, String part) {
        CHECKS.dueText(part, text.contains(part) ? "there" : "missing", "there");
    }

    private static void showsTheExample(String text) {
        CHECKS.part("README.md shows the calls that are tested here");
        String[] calls = {
            "new MeldingHeaps()", "int near = heaps.open(0, 0);", "int far = heaps.open(0, 0);",
            "int a = heaps.insert(near, 5L, 50);", "int b = heaps.insert(far, 7L, 70);",
            "heaps.meld(near, far);", "heaps.decrease(b, 3L);", "heaps.take(near);", "heaps.first(near);",
            "heaps.first(far);",
        };
        int from = 0;
        for (String call : calls) {
            int found = text.indexOf(call, from);
            CHECKS.dueText(call, found >= from ? "there, in its place" : "missing", "there, in its place");
            from = Math.max(from, found);
        }
    }

    private static void example() {
        CHECKS.part("the example of README.md");
        MeldingHeaps heaps = new MeldingHeaps();
        int near = heaps.open(0, 0);
        int far = heaps.open(0, 0);
        int a = heaps.insert(near, 5L, 50);
        int b = heaps.insert(far, 7L, 70);
        due("meld(near, far)", heaps.meld(near, far), 2);
        due("decrease(b, 3L)", heaps.decrease(b, 3L), 1);
        due("take(near)", heaps.take(near), b);
        due("first(near)", heaps.first(near), a);
        due("first(far)", heaps.first(far), MeldingHeaps.ABSORBED);
    }
}
