import java.io.IOException;
import java.lang.reflect.Constructor;
import java.lang.reflect.Field;
import java.lang.reflect.Method;
import java.lang.reflect.Modifier;
import java.nio.file.Files;
import java.nio.file.Path;
import java.util.HashSet;
import java.util.Set;
import java.util.regex.Matcher;
import java.util.regex.Pattern;

/** Those rules of LANGUAGE.md that can be told from the source's words or from the compiled class. */
public final class LanguageTest {
    private static final String[] RULED_OUT = {
        "\\b(throw|throws|try|catch|finally|synchronized|assert|volatile|native|package)\\b",
        "\\b(Object|Random|Thread|hashCode|toString)\\b",
        "\\bSystem\\.(?!arraycopy)",
        "\\bimport\\b(?! java\\.util\\.Arrays;)",
        "\\w+Exact\\b",
        "->",
        "::",
        "\"",
        "new \\w+\\([^)]*\\) \\{",
    };
    private static final int LONGEST_METHOD = 60;
    private static final int MOST_CLASSES = 12;
    private static final int MOST_FIELDS = 20;
    private static final int MOST_PARAMETERS = 7;

    private static final Checks c = new Checks();

    public static void main(String[] args) throws IOException {
        String source = Files.readString(Path.of("src/main/java/BoxArchive.java"));
        String code = source.replaceAll("(?s)/\\*.*?\\*/", "").replaceAll("//[^\n]*", "");
        for (String pattern : RULED_OUT) {
            c.due("rules 2, 4 and 6: " + pattern, count(code, pattern), 0);
        }
        methodsAreShort(code);
        classes();
        c.end();
    }

    private static int count(String code, String pattern) {
        Matcher m = Pattern.compile(pattern).matcher(code);
        int many = 0;
        while (m.find()) {
            many++;
        }
        return many;
    }

    /** A method ends with the brace that stands as far in as its first line. */
    private static void methodsAreShort(String code) {
        Matcher m = Pattern.compile("(?m)^( {4}| {8})(?!.*\\bclass\\b)\\w[^;=]*\\) \\{\n(?s:.*?)\n\\1\\}").matcher(code);
        int methods = 0;
        while (m.find()) {
            methods++;
            int lines = count(m.group(), "\n") + 1;
            c.due("rule 11: lines of " + m.group().split("\n")[0].trim(), Math.max(lines, LONGEST_METHOD), LONGEST_METHOD);
        }
        c.due("rule 11: methods were found", methods > 32 ? 1 : 0, 1);
    }

    private static void classes() {
        Class<?>[] inside = BoxArchive.class.getDeclaredClasses();
        c.due("rule 11: classes", inside.length + 1 <= MOST_CLASSES ? 1 : 0, 1);
        Set<String> face = new HashSet<>();
        for (Method m : BoxArchive.class.getDeclaredMethods()) {
            if (Modifier.isPublic(m.getModifiers())) {
                face.add(m.getName());
            }
        }
        look(BoxArchive.class, face);
        for (Class<?> type : inside) {
            c.due("rule 1: static " + type, Modifier.isStatic(type.getModifiers()) ? 1 : 0, 1);
            look(type, face);
        }
    }

    private static void look(Class<?> type, Set<String> face) {
        int fields = 0;
        for (Field f : type.getDeclaredFields()) {
            boolean isStatic = Modifier.isStatic(f.getModifiers());
            fields += isStatic ? 0 : 1;
            c.due("rule 5: " + f, isStatic && !Modifier.isFinal(f.getModifiers()) ? 1 : 0, 0);
        }
        c.due("rule 11: fields of " + type, fields <= MOST_FIELDS ? 1 : 0, 1);
        for (Method m : type.getDeclaredMethods()) {
            c.due("rule 11: parameters of " + m, m.getParameterCount() <= MOST_PARAMETERS ? 1 : 0, 1);
            c.due("rule 1: the name of " + m, !Modifier.isPublic(m.getModifiers()) && face.contains(m.getName()) ? 1 : 0, 0);
        }
        for (Constructor<?> made : type.getDeclaredConstructors()) {
            c.due("rule 11: parameters of " + made, made.getParameterCount() <= MOST_PARAMETERS ? 1 : 0, 1);
        }
    }
}
