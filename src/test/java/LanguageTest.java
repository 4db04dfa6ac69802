import java.io.IOException;
import java.lang.reflect.Field;
import java.lang.reflect.Method;
import java.lang.reflect.Modifier;
import java.nio.file.Files;
import java.nio.file.Path;
import java.util.Set;
import java.util.TreeSet;
import java.util.regex.Matcher;
import java.util.regex.Pattern;

/** Rules of LANGUAGE.md that can be seen in the file or in the compiled class. */
public final class LanguageTest {
    private static final int MOST_PARAMETERS = 7;
    private static final int MOST_LINES = 60;
    private static final int MOST_CLASSES = 12;
    private static final int MOST_FIELDS = 20;

    private static final Due due = new Due();

    public static void main(String[] args) throws IOException {
        String program = Files.readString(Path.of("src/main/java/TwinWrites.java"));
        words(bare(program));
        throwsOfRuleSix(program);
        methodLines(program);
        classes();
        namesAreNotShared();
        due.end("LanguageTest");
    }

    private static void holds(String what, boolean held) {
        due.is(what, () -> held ? 1 : 0, 1);
    }

    /** The program without its comments and texts. */
    private static String bare(String program) {
        return program.replaceAll("(?s)/\\*.*?\\*/", "").replaceAll("//[^\n]*", "").replaceAll("\"[^\"\n]*\"", "\"\"");
    }

    private static void words(String bare) {
        String[] ruledOut = {"package", "import", "finally", "synchronized", "assert", "volatile", "native",
            "protected", "Exact", "hashCode", "toString", "getMessage", "printStackTrace", "System", "Object", "var"};
        for (String word : ruledOut) {
            holds("no word " + word, !Pattern.compile("\\b\\w*" + word + "\\b").matcher(bare).find());
        }
        // The class needs none, so that nothing the machine throws can be caught by it.
        holds("no try", !Pattern.compile("\\b(try|catch)\\b").matcher(bare).find());
        holds("no lambda and no method reference", !bare.contains("->") && !bare.contains("::"));
        Matcher library = Pattern.compile("\\bMath\\.(\\w+)").matcher(bare);
        while (library.find()) {
            holds("Math." + library.group(1), Set.of("floorMod", "floorDiv", "max", "min", "abs").contains(library.group(1)));
        }
    }

    /** Only the two that the document names, each with a written text or without one. */
    private static void throwsOfRuleSix(String program) {
        Matcher thrown = Pattern.compile("\\bthrow\\b[^;]*;").matcher(program);
        int count = 0;
        while (thrown.find()) {
            count++;
            holds(thrown.group(), thrown.group().matches(
                    "throw new (IndexOutOfBoundsException|IllegalStateException)\\((\"[^\"]*\")?\\);"));
        }
        holds("the class throws", count > 0);
    }

    private static void methodLines(String program) {
        Matcher method = Pattern.compile("\n( {4}| {8})\\S[^;={}]*\\([^;={}]*\\{\n.*?\n\\1\\}\n", Pattern.DOTALL).matcher(program);
        int count = 0;
        while (method.find()) {
            count++;
            long lines = method.group().lines().count();
            holds("lines of " + method.group().strip().lines().findFirst().orElse(""), lines <= MOST_LINES);
        }
        holds("methods are seen", count > 20);
    }

    private static void classes() {
        Class<?>[] inside = TwinWrites.class.getDeclaredClasses();
        holds("few classes", inside.length < MOST_CLASSES);
        members(TwinWrites.class);
        for (Class<?> c : inside) {
            holds(c + " is static and not public", Modifier.isStatic(c.getModifiers()) && !Modifier.isPublic(c.getModifiers()));
            members(c);
        }
    }

    private static void members(Class<?> c) {
        int fields = 0;
        for (Field f : c.getDeclaredFields()) {
            if (Modifier.isStatic(f.getModifiers())) {
                holds(f + " is final", Modifier.isFinal(f.getModifiers()));
            } else {
                fields++;
            }
        }
        holds("few fields in " + c, fields <= MOST_FIELDS);
        for (Method m : c.getDeclaredMethods()) {
            holds("few parameters in " + m, m.getParameterCount() <= MOST_PARAMETERS);
        }
    }

    private static void namesAreNotShared() {
        Set<String> shown = new TreeSet<>();
        for (Method m : TwinWrites.class.getDeclaredMethods()) {
            if (Modifier.isPublic(m.getModifiers())) {
                shown.add(m.getName());
            }
        }
        for (Method m : TwinWrites.class.getDeclaredMethods()) {
            if (Modifier.isPrivate(m.getModifiers())) {
                holds(m + " has a name of its own", !shown.contains(m.getName()));
            }
        }
    }
}
