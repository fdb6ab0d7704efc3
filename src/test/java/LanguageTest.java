import java.io.IOException;
import java.lang.reflect.Method;
import java.lang.reflect.Modifier;
import java.nio.file.Files;
import java.nio.file.Path;
import java.util.List;
import java.util.TreeSet;
import java.util.regex.Matcher;
import java.util.regex.Pattern;

/**
 * The rules of ../shared/LANGUAGE.md that can be seen from the text of the program, or by reflection, as
 * narrow as the program needs them: who needs more of what the rules allow makes the lists here longer.
 */
public final class LanguageTest {
    private static final Path PROGRAM = Path.of("src/main/java/CardFans.java");
    private static final String EXCEPTIONS = "IllegalArgumentException|IllegalStateException|IndexOutOfBoundsException";
    private static final List<String> LIBRARY = List.of("Integer.bitCount", "Math.floorMod");
    private static final List<String> MADE = List.of("Row(", "Watcher(", "Player(", "Watcher[", "Player[", "int[",
        "IllegalArgumentException(", "IllegalStateException(", "IndexOutOfBoundsException(");

    private static final Checks checks = new Checks("LanguageTest");

    public static void main(String[] args) throws IOException {
        String text = Files.readString(PROGRAM);
        checks.that("signs 1 to 127 alone", text.matches("[\\x01-\\x7f]*"));
        checks.that("one file", Files.list(PROGRAM.getParent()).count() == 1);
        String code = bare(text);
        hasNone("rules 1, 3, 4, 6, 13", code, "\\b(package|import|try|catch|finally|synchronized|assert|instanceof"
            + "|native|volatile|record|System|Runtime|Thread|Random|Object|String|float|goto)\\b");
        hasNone("rule 3, no lambda or method reference", code, "->|::");
        hasNone("rule 4, Exact", code, "Exact\\b");
        hasNone("rule 5, static fields that are not final, static blocks", code,
            "\\bstatic (?!final )(?!class )[^(]*?[;=]|\\bstatic \\{");
        hasNone("rule 6, other throws", code, "\\bthrow (?!new (" + EXCEPTIONS + ")\\(\"\"\\);)");
        hasNone("rule 9, loops without a bound", code, "while \\(true\\)|for \\([^;]*;\\s*;");
        allKnown("library calls", code, "\\b[A-Z][a-z]\\w*\\.\\w+", LIBRARY);
        allKnown("objects made", code, "(?<=\\bnew )\\w+[(\\[]", MADE);
        sizes();
        headings(text);
        checks.end();
    }

    /** Without comments, and without what stands in texts. */
    private static String bare(String text) {
        return text.replaceAll("(?s)/\\*.*?\\*/", "").replaceAll("//[^\n]*", "").replaceAll("\"[^\"\n]*\"", "\"\"");
    }

    private static void hasNone(String rule, String code, String pattern) {
        Matcher found = Pattern.compile(pattern).matcher(code);
        checks.that(rule + (found.find() ? ": " + found.group() : ""), !found.reset().find());
    }

    private static void allKnown(String rule, String code, String pattern, List<String> known) {
        TreeSet<String> found = new TreeSet<>();
        Pattern.compile(pattern).matcher(code).results().forEach(each -> found.add(each.group()));
        checks.that(rule + " are found", !found.isEmpty());
        found.removeAll(known);
        checks.that(rule + ": " + found, found.isEmpty());
    }

    private static void sizes() {
        Class<?>[] inside = CardFans.class.getDeclaredClasses();
        checks.that("twelve classes at most", inside.length < 12);
        TreeSet<String> face = new TreeSet<>();
        for (Method method : CardFans.class.getMethods()) {
            face.add(method.getName());
        }
        for (Class<?> each : inside) {
            checks.that(each + " is private and static",
                Modifier.isPrivate(each.getModifiers()) && Modifier.isStatic(each.getModifiers()));
            methodsOf(each, face);
        }
        methodsOf(CardFans.class, new TreeSet<>());
    }

    private static void methodsOf(Class<?> owner, TreeSet<String> namesOfTheFace) {
        for (Method method : owner.getDeclaredMethods()) {
            checks.that(method + " takes seven at most", method.getParameterCount() <= 7);
            checks.that(method + " bears no name of the face", !namesOfTheFace.contains(method.getName()));
        }
    }

    /** "Ahead of the calls .. the interface says": each heading, then its calls, in the document's order. */
    private static void headings(String text) {
        String[] due = {
            "// A pack of cards folded by magicians.", "---- ways", "go", "falseCut", "comes", "card", "find",
            "---- watchers", "watch", "glimpse", "thinks", "sure", "watcher",
            "---- players", "sit", "fan", "take", "force", "took",
            "---- counts and what would be", "count", "back", "bring", "riffles", "mean", "digest",
        };
        StringBuilder told = new StringBuilder();
        Matcher found = Pattern.compile("(?m)^(?:/\\*\\* (A pack .*) \\*/|    // (---- .*)"
            + "|    public (?:int|long|double) (\\w+)\\(.*)$").matcher(text);
        while (found.find()) {
            told.append(found.group(1) != null ? "// " + found.group(1) : "");
            told.append(found.group(2) != null ? found.group(2) : "");
            told.append(found.group(3) != null ? found.group(3) : "").append('\n');
        }
        checks.that("headings and calls are " + told, told.toString().equals(String.join("\n", due) + "\n"));
    }
}
