import java.io.IOException;
import java.lang.reflect.Constructor;
import java.lang.reflect.Field;
import java.lang.reflect.Method;
import java.lang.reflect.Modifier;
import java.nio.file.Files;
import java.nio.file.Path;
import java.util.ArrayList;
import java.util.List;
import java.util.Set;
import java.util.TreeSet;
import java.util.regex.Matcher;
import java.util.regex.Pattern;

/** What of ../shared/LANGUAGE.md can be told from the file's words and from the compiled classes. */
public final class LanguageTest {
    private static final Path SOURCE = Path.of("src/main/java/SameAgain.java");
    private static final Set<String> IMPORTS = Set.of("java.util.ArrayList", "java.util.Arrays", "java.util.Iterator",
        "java.util.List", "java.util.NoSuchElementException");
    /** The rule's number and words that it rules out; a catch could be right, but the class needs none. */
    private static final String[][] RULED_OUT = {
        {"1", "\\bpackage\\b"},
        {"2", "->"}, {"2", "::"},
        {"3", "\\b(Object|Map|Set|Optional|Stream|long\\[\\]\\[\\]\\[\\]|int\\[\\]\\[\\]\\[\\])\\b"},
        {"4", "Exact\\b"}, {"4", "\\bSystem\\.(?!arraycopy\\b)"},
        {"4", "\\bArrays\\.(?!(copyOf|copyOfRange|fill)\\b)"},
        {"5", "\\bstatic\\s*\\{"},
        {"6", "\\b(finally|synchronized|assert|getMessage|hashCode|toString)\\b"},
        {"6", "\\bcatch\\b"},
        {"6", "\\bthrow\\b(?! new (IllegalArgumentException|NoSuchElementException)\\(\"[^\"]*\"\\);)"},
        {"13", "\\b(Random|Thread|currentTimeMillis|nanoTime|getenv)\\b"},
    };

    public static void main(String[] args) throws IOException {
        String code = withoutComments(Files.readString(SOURCE));
        imports(code);
        ruledOut(code);
        methodsAreShort(code);
        List<Class<?>> classes = new ArrayList<>(List.of(SameAgain.class.getDeclaredClasses()));
        Check.due("rule 11: at most twelve classes", true, () -> classes.size() + 1 <= 12);
        for (Class<?> c : classes) {
            inside(c);
        }
        classes.add(SameAgain.class);
        for (Class<?> c : classes) {
            fieldsAndMethods(c);
        }
        Check.end();
    }

    private static String withoutComments(String text) {
        return text.replaceAll("(?s)/\\*.*?\\*/", "").replaceAll("//[^\n]*", "");
    }

    private static void imports(String code) {
        Set<String> others = new TreeSet<>();
        Matcher m = Pattern.compile("\\bimport\\s+([^;]+);").matcher(code);
        while (m.find()) {
            others.add(m.group(1));
        }
        others.removeAll(IMPORTS);
        Check.due("rule 4: imports", Set.of(), () -> others);
        Check.due("rule 4: no other name of a package", false, () -> code.replaceAll("import [^;]+;", "")
            .contains("java."));
    }

    private static void ruledOut(String code) {
        for (String[] rule : RULED_OUT) {
            Matcher m = Pattern.compile(rule[1]).matcher(code);
            Check.due("rule " + rule[0], "none", () -> m.find() ? m.group() : "none");
        }
    }

    /** Methods of the class itself stand four spaces in, those of the classes inside eight. */
    private static void methodsAreShort(String code) {
        String[] lines = code.split("\n");
        for (int i = 0; i < lines.length; i++) {
            Matcher m = Pattern.compile("^((?:    ){1,2})(?:public|private)[^=]*\\)[^=]*\\{$").matcher(lines[i]);
            if (m.find()) {
                int end = i;
                while (end < lines.length && !lines[end].equals(m.group(1) + "}")) {
                    end++;
                }
                int length = end - i + 1;
                Check.due("rule 11: short: " + lines[i].trim(), true, () -> length <= 60);
            }
        }
    }

    private static void inside(Class<?> c) {
        Check.due("rule 1: static: " + c, true, () -> Modifier.isStatic(c.getModifiers()));
        Check.due("rule 1: not public: " + c, false,
            () -> Modifier.isPublic(c.getModifiers()) || Modifier.isProtected(c.getModifiers()));
    }

    private static void fieldsAndMethods(Class<?> c) {
        int own = 0;
        for (Field f : c.getDeclaredFields()) {
            boolean isStatic = Modifier.isStatic(f.getModifiers());
            own += isStatic ? 0 : 1;
            Check.due("rule 5: final: " + f, true, () -> !isStatic || Modifier.isFinal(f.getModifiers()));
        }
        int fields = own;
        Check.due("rule 11: some twenty fields: " + c, true, () -> fields <= 20);
        for (Method m : c.getDeclaredMethods()) {
            Check.due("rule 11: seven parameters: " + m, true, () -> m.getParameterCount() <= 7);
        }
        for (Constructor<?> made : c.getDeclaredConstructors()) {
            Check.due("rule 11: seven parameters: " + made, true, () -> made.getParameterCount() <= 7);
        }
    }
}
