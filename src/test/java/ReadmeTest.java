import java.io.IOException;
import java.lang.reflect.Method;
import java.lang.reflect.Modifier;
import java.nio.file.DirectoryStream;
import java.nio.file.Files;
import java.nio.file.Path;
import java.util.HashMap;
import java.util.List;
import java.util.Map;
import java.util.Set;
import java.util.TreeSet;
import java.util.regex.Matcher;
import java.util.regex.Pattern;

/** What README.md says is so: the answers in its runs, the calls it lists, and the tests it names. */
public final class ReadmeTest {
    private static final Path TESTS = Path.of("src/test/java");
    private static final Pattern BLOCK = Pattern.compile("(?s)```java\n(.*?)```");
    private static final Pattern NAMED = Pattern.compile("int (\\w+) = archive\\.(\\w+\\(.*\\));");
    private static final Pattern ANSWERED = Pattern.compile("archive\\.(\\w+\\(.*\\)); +// (true|false|-?\\d+)(:.*)?");
    private static final String MADE = "BoxArchive archive = new BoxArchive();";

    private static final Checks c = new Checks();

    private final BoxArchive archive = new BoxArchive();
    private final Map<String, String> named = new HashMap<>(Map.of("BoxArchive.NONE", "-1"));
    private final Set<String> called = new TreeSet<>();

    public static void main(String[] args) throws IOException {
        String text = Files.readString(Path.of("README.md"));
        ReadmeTest readme = new ReadmeTest();
        Matcher block = BLOCK.matcher(text);
        while (block.find()) {
            block.group(1).lines().filter(line -> !line.isEmpty()).forEach(readme::follow);
        }
        readme.runsHaveMostCalls();
        callsAreListed(text);
        testsAreNamed(text);
        c.end();
    }

    /** One line of a run; a line that can't be read is wrong, so that none is passed over. */
    private void follow(String line) {
        Matcher name = NAMED.matcher(line);
        Matcher answer = ANSWERED.matcher(line);
        if (name.matches()) {
            named.put(name.group(1), String.valueOf(made(name.group(2))));
        } else if (answer.matches()) {
            c.due("README: " + line, made(answer.group(1)), asNumber(answer.group(2)));
        } else {
            c.due("README: a line that can't be read: " + line, line.equals(MADE) ? 1 : 0, 1);
        }
    }

    private long made(String text) {
        int open = text.indexOf('(');
        called.add(text.substring(0, open));
        String[] words = text.substring(open + 1, text.length() - 1).split(", ");
        for (int i = 0; i < words.length; i++) {
            words[i] = named.getOrDefault(words[i], words[i]);
        }
        return new Call(text.substring(0, open) + "(" + String.join(", ", words) + ")").on(archive);
    }

    private static long asNumber(String answer) {
        if (answer.equals("true") || answer.equals("false")) {
            return answer.equals("true") ? 1 : 0;
        }
        return Long.parseLong(answer);
    }

    /** A pattern that matched nothing would let every line of the runs pass. */
    private void runsHaveMostCalls() {
        for (String call : List.of("thing", "say", "has", "span", "held", "quarrel", "count", "join", "close", "sees",
                "number", "tray", "find", "read", "mark", "walk", "fetch", "back", "where", "stand", "goal", "plan",
                "carry", "carried", "told", "write", "pour", "search", "upper", "lower", "status")) {
            c.due("README: a run with " + call, called.contains(call) ? 1 : 0, 1);
        }
    }

    private static void callsAreListed(String text) {
        for (Method m : BoxArchive.class.getDeclaredMethods()) {
            if (Modifier.isPublic(m.getModifiers())) {
                c.due("README: names " + m.getName(), text.contains("`" + m.getName() + "`") ? 1 : 0, 1);
            }
        }
    }

    private static void testsAreNamed(String text) throws IOException {
        Set<String> there = new TreeSet<>();
        try (DirectoryStream<Path> files = Files.newDirectoryStream(TESTS, "*Test.java")) {
            for (Path file : files) {
                there.add(file.getFileName().toString().replace(".java", ""));
            }
        }
        Set<String> told = new TreeSet<>();
        Matcher test = Pattern.compile("`(\\w+Test)`").matcher(text);
        while (test.find()) {
            told.add(test.group(1));
        }
        if (!told.equals(there)) {
            System.out.println("README names " + told + ", there are " + there);
        }
        c.due("README: the tests", told.equals(there) ? 1 : 0, 1);
    }
}
