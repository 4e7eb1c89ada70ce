import java.io.IOException;
import java.lang.reflect.Field;
import java.lang.reflect.Method;
import java.lang.reflect.Modifier;
import java.nio.file.Files;
import java.nio.file.Path;
import java.util.List;
import java.util.Set;
import java.util.regex.Matcher;
import java.util.regex.Pattern;
import java.util.stream.Collectors;
import java.util.stream.Stream;

/** Those rules of LANGUAGE.md that can be told from the program's text or from its members. */
public final class LanguageTest {
    private static final Path SOURCES = Path.of("src/main/java");
    private static final int MOST_PARAMETERS = 7;
    private static final int MOST_FIELDS = 20;
    private static final int MOST_LINES = 60;
    private static final String[] FORBIDDEN = {
        "\\bthrow\\b", "\\bthrows\\b", "\\btry\\b", "\\bcatch\\b", "\\bsynchronized\\b", "\\bassert\\b",
        "\\bnative\\b", "->", "::", "\\bstatic\\s*\\{", "\\bSystem\\.(?!arraycopy)", "\\bThread\\b",
        "\\bRandom\\b", "\\bMath\\.random\\b", "\\w+Exact\\b",
    };

    private static final Checks CHECKS = new Checks();

    public static void main(String[] args) throws IOException {
        List<String> files = sourceFiles();
        CHECKS.part("the program is one file");
        CHECKS.dueText("the sources", files.toString(), "[MeldingHeaps.java]");
        String text = withoutComments(Files.readString(SOURCES.resolve("MeldingHeaps.java")));
        packageAndImports(text);
        forbiddenWords(text);
        lengthsOfMethods(text);
        namesOfPrivateMethods();
        parameters();
        fields();
        CHECKS.end();
    }

    private static List<String> sourceFiles() throws IOException {
        try (Stream<Path> all = Files.walk(SOURCES)) {
            return all.filter(Files::isRegularFile).map(file -> SOURCES.relativize(file).toString()).sorted().toList();
        }
    }

    private static String withoutComments(String text) {
        return text.replaceAll("(?s)/\\*.*?\\*/", "").replaceAll("//[^\n]*", "");
    }

    private static String findAll(String text, String pattern) {
        return Pattern.compile(pattern).matcher(text).results().map(found -> found.group()).toList().toString();
    }

    private static void packageAndImports(String text) {
        CHECKS.part("without a package line, with the listed library alone (rule 4)");
        CHECKS.dueText("package lines", findAll(text, "\\bpackage\\b[^;]*;"), "[]");
        CHECKS.dueText("imports", findAll(text, "\\bimport\\s+(?!java\\.util\\.(ArrayList|List|Iterator|Arrays);)[^;]*;"), "[]");
    }

    private static void forbiddenWords(String text) {
        CHECKS.part("rules 2, 4, 5, 6 and 13");
        for (String pattern : FORBIDDEN) {
            CHECKS.dueText("what is like " + pattern, findAll(text, pattern), "[]");
        }
    }

    /** Members begin four spaces deep and end with a brace just as deep. */
    private static void lengthsOfMethods(String text) {
        CHECKS.part("methods stay short (rule 11)");
        Matcher members = Pattern.compile("(?ms)^ {4}\\w[^;={]*\\{$.*?^ {4}\\}$").matcher(text);
        int count = 0;
        while (members.find()) {
            count++;
            long lines = members.group().lines().count();
            String name = members.group().lines().findFirst().orElse("");
            CHECKS.dueText(name, lines <= MOST_LINES ? "short" : lines + " lines long", "short");
        }
        int methods = MeldingHeaps.class.getDeclaredMethods().length;
        CHECKS.due("methods and constructors that were found", count, methods + 1);
    }

    private static void namesOfPrivateMethods() {
        CHECKS.part("no private method bears the name of a public one (rule 1)");
        Set<String> publicNames = Stream.of(MeldingHeaps.class.getDeclaredMethods())
            .filter(each -> Modifier.isPublic(each.getModifiers())).map(Method::getName).collect(Collectors.toSet());
        for (Method each : MeldingHeaps.class.getDeclaredMethods()) {
            boolean clashes = !Modifier.isPublic(each.getModifiers()) && publicNames.contains(each.getName());
            CHECKS.dueText("a private name", clashes ? each.getName() : "", "");
        }
    }

    private static void parameters() {
        CHECKS.part("at most seven parameters (rule 11)");
        for (Method each : MeldingHeaps.class.getDeclaredMethods()) {
            CHECKS.dueText("too many", each.getParameterCount() <= MOST_PARAMETERS ? "" : each.getName(), "");
        }
    }

    private static void fields() {
        CHECKS.part("static fields are final, and others are few (rules 5 and 11)");
        int own = 0;
        for (Field each : MeldingHeaps.class.getDeclaredFields()) {
            boolean isStatic = Modifier.isStatic(each.getModifiers());
            own += isStatic ? 0 : 1;
            boolean changes = isStatic && !Modifier.isFinal(each.getModifiers());
            CHECKS.dueText("a static field that changes", changes ? each.getName() : "", "");
        }
        CHECKS.dueText("fields", own <= MOST_FIELDS ? "few" : own + "", "few");
    }
}
