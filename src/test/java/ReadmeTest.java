import java.io.IOException;
import java.lang.reflect.Method;
import java.lang.reflect.Modifier;
import java.nio.file.Files;
import java.nio.file.Path;
import java.util.List;
import java.util.TreeSet;
import java.util.regex.Matcher;
import java.util.regex.Pattern;
import java.util.stream.Stream;

/** Makes the calls of the README's examples: each tells its answer behind it. */
public final class ReadmeTest {
    private static final Due DUE = new Due("ReadmeTest");

    private static final String NEW_FEED = "ChangeFeed feed = new ChangeFeed();";
    private static final Pattern CALL = Pattern.compile("feed\\.(\\w+)\\((.*?)\\); *// (-?\\d+|[A-Z_]+)(: .*)?");
    private static final Pattern TERM = Pattern.compile("'(.)'(?: << (\\d+))?");

    public static void main(String[] args) throws ReflectiveOperationException, IOException {
        Path readme = Path.of("README.md");
        examples(Files.readAllLines(readme));
        namesEachCall(Files.readString(readme));
        namesEachTest(Files.readString(readme));
        DUE.end();
    }

    private static void examples(List<String> lines) throws ReflectiveOperationException {
        ChangeFeed feed = null;
        boolean isExample = false;
        int calls = 0;
        for (String line : lines) {
            if (line.startsWith("```")) {
                isExample = line.equals("```java");
                feed = null;
            } else if (isExample && line.equals(NEW_FEED)) {
                feed = new ChangeFeed();
            } else if (isExample) {
                Matcher call = CALL.matcher(line);
                boolean isCall = call.matches();
                DUE.holds("a call on a feed, and its answer: " + line, isCall && feed != null);
                if (isCall && feed != null) {
                    DUE.is(line, answer(feed, call.group(1), call.group(2)), number(call.group(3)));
                    calls++;
                }
            }
        }
        DUE.holds("calls that are shown: " + calls, calls > 0);
    }

    private static int answer(ChangeFeed feed, String name, String listed) throws ReflectiveOperationException {
        String[] given = listed.isEmpty() ? new String[0] : listed.split(", ");
        Method method = null;
        for (Method each : ChangeFeed.class.getMethods()) {
            if (each.getName().equals(name) && each.getDeclaringClass() == ChangeFeed.class) {
                method = each;
            }
        }
        if (method == null) {
            throw new NoSuchMethodException(name);
        }
        Object[] values = new Object[given.length];
        for (int i = 0; i < given.length; i++) {
            long value = number(given[i]);
            if (method.getParameterTypes()[i] == long.class) {
                values[i] = value;
            } else {
                values[i] = (int) value;
            }
        }
        return (int) method.invoke(feed, values);
    }

    /** A number, a constant of the class, or characters that are shifted to their places. */
    private static long number(String word) throws ReflectiveOperationException {
        if (word.matches("-?\\d+")) {
            return Long.parseLong(word);
        }
        if (word.matches("(ChangeFeed\\.)?[A-Z_]+")) {
            return ChangeFeed.class.getField(word.replace("ChangeFeed.", "")).getInt(null);
        }
        long all = 0;
        for (String part : word.split(" \\| ")) {
            Matcher term = TERM.matcher(part);
            if (!term.matches()) {
                throw new IllegalArgumentException("no number: " + word);
            }
            all |= (long) term.group(1).charAt(0) << (term.group(2) == null ? 0 : Integer.parseInt(term.group(2)));
        }
        return all;
    }

    private static void namesEachCall(String readme) {
        TreeSet<String> names = new TreeSet<>();
        for (Method method : ChangeFeed.class.getDeclaredMethods()) {
            if (Modifier.isPublic(method.getModifiers())) {
                names.add(method.getName());
            }
        }
        for (String name : names) {
            DUE.holds("it names " + name, readme.contains("`" + name + "`"));
        }
    }

    private static void namesEachTest(String readme) throws IOException {
        try (Stream<Path> files = Files.list(Path.of("src/test/java"))) {
            for (Path file : files.toList()) {
                String name = file.getFileName().toString().replace(".java", "");
                DUE.holds("it names " + name, readme.contains("`" + name + "`"));
            }
        }
    }
}
