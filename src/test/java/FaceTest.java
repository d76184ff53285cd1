import com.sun.management.ThreadMXBean;
import java.io.IOException;
import java.lang.management.ManagementFactory;
import java.lang.reflect.Constructor;
import java.lang.reflect.Field;
import java.lang.reflect.Method;
import java.lang.reflect.Modifier;
import java.nio.file.Files;
import java.nio.file.Path;
import java.util.TreeSet;
import java.util.regex.Matcher;
import java.util.regex.Pattern;

/** The face of the document, and what of LANGUAGE.md a look at the class and at its text can tell. */
public final class FaceTest {
    private static final Due DUE = new Due("FaceTest");

    /** Enough calls for a machine that makes something now and then to be done with it. */
    private static final int ROUNDS = 200;

    public static void main(String[] args) throws Exception {
        methods();
        constants();
        constructors();
        classesInside();
        text();
        callsMakeNothing();
        DUE.end();
    }

    /** What the document's face has behind each of these words, without the names of parameters. */
    private static TreeSet<String> faceOfDocument(String pattern) throws IOException {
        String document = Files.readString(Path.of("../shared/DOC.md"));
        String face = document.substring(document.indexOf("```java"), document.indexOf("## Terms"));
        Matcher found = Pattern.compile(pattern).matcher(face);
        TreeSet<String> all = new TreeSet<>();
        while (found.find()) {
            for (String one : found.group(1).split("(?<=[0-9]), ")) {
                all.add(one.replace(" = ", "=").replaceAll("(int|long) [a-z]+", "$1").replace(", ", ","));
            }
        }
        return all;
    }

    private static void methods() throws IOException {
        TreeSet<String> shown = new TreeSet<>();
        TreeSet<String> publicNames = new TreeSet<>();
        for (Method method : ChangeFeed.class.getDeclaredMethods()) {
            if (!Modifier.isPrivate(method.getModifiers())) {
                StringBuilder types = new StringBuilder();
                for (Class<?> type : method.getParameterTypes()) {
                    types.append(types.length() == 0 ? "" : ",").append(type.getName());
                }
                shown.add(method.getName() + "(" + types + ")");
                publicNames.add(method.getName());
                DUE.is("modifiers of " + method.getName(), method.getModifiers(), Modifier.PUBLIC);
                DUE.holds("type of " + method.getName(), method.getReturnType() == int.class);
            }
        }
        TreeSet<String> face = faceOfDocument("public int (\\w+\\([^)]*\\));");
        DUE.is("methods of the document", face.size(), 29);
        DUE.holds("the methods " + shown + " and not " + face, shown.equals(face));
        for (Method method : ChangeFeed.class.getDeclaredMethods()) {
            DUE.holds("no private method has a public one's name: " + method.getName(),
                !Modifier.isPrivate(method.getModifiers()) || !publicNames.contains(method.getName()));
        }
    }

    private static void constants() throws IllegalAccessException, IOException {
        TreeSet<String> shown = new TreeSet<>();
        for (Field field : ChangeFeed.class.getDeclaredFields()) {
            if (!Modifier.isPrivate(field.getModifiers())) {
                DUE.is("modifiers of " + field.getName(), field.getModifiers(),
                    Modifier.PUBLIC | Modifier.STATIC | Modifier.FINAL);
                shown.add(field.getName() + "=" + field.getInt(null));
            }
        }
        TreeSet<String> face = faceOfDocument("public static final int ([^;]*);");
        DUE.is("constants of the document", face.size(), 8);
        DUE.holds("the constants " + shown + " and not " + face, shown.equals(face));
    }

    private static void constructors() {
        Constructor<?>[] constructors = ChangeFeed.class.getDeclaredConstructors();
        DUE.is("constructors", constructors.length, 1);
        DUE.is("modifiers of the constructor", constructors[0].getModifiers(), Modifier.PUBLIC);
        DUE.is("its parameters", constructors[0].getParameterCount(), 0);
        DUE.is("modifiers of the class", ChangeFeed.class.getModifiers(), Modifier.PUBLIC | Modifier.FINAL);
    }

    private static void classesInside() {
        DUE.holds("some twelve classes", ChangeFeed.class.getDeclaredClasses().length < 12);
        for (Class<?> inside : ChangeFeed.class.getDeclaredClasses()) {
            DUE.holds(inside + " is static", Modifier.isStatic(inside.getModifiers()));
            DUE.holds(inside + " is not shown", (inside.getModifiers() & (Modifier.PUBLIC | Modifier.PROTECTED)) == 0);
            DUE.is(inside + " holds no class", inside.getDeclaredClasses().length, 0);
            int fields = 0;
            for (Field field : inside.getDeclaredFields()) {
                boolean isStatic = Modifier.isStatic(field.getModifiers());
                DUE.holds(field + " is final if static", !isStatic || Modifier.isFinal(field.getModifiers()));
                fields += isStatic ? 0 : 1;
            }
            DUE.holds(inside + " has some twenty fields", fields <= 20);
        }
    }

    private static void text() throws IOException {
        String text = Files.readString(Path.of("src/main/java/ChangeFeed.java"));
        String code = text.replaceAll("(?s)/\\*.*?\\*/", " ").replaceAll("//[^\n]*", " ");
        String[] words = {"throw", "throws", "try", "catch", "finally", "synchronized", "assert", "import", "package",
            "float", "double", "Object", "Exception", "System", "Thread", "equals", "hashCode", "toString"};
        for (String word : words) {
            DUE.holds("no " + word, !code.matches("(?s).*\\b" + word + "\\b.*"));
        }
        DUE.holds("no lambda and no method reference", !code.contains("->") && !code.contains("::"));
        DUE.holds("characters of ASCII", text.chars().allMatch(sign -> sign == '\n' || sign >= 32 && sign < 127));
    }

    /** All that a feed needs is made with it: no call makes an object or an array. */
    private static void callsMakeNothing() {
        ThreadMXBean threads = (ThreadMXBean) ManagementFactory.getThreadMXBean();
        if (!threads.isThreadAllocatedMemorySupported() || !threads.isThreadAllocatedMemoryEnabled()) {
            return;
        }
        ChangeFeed feed = Feeds.started();
        long text = Feeds.packed("p1=2;r0*");
        for (int i = 0; i < ROUNDS; i++) {
            allCalls(feed, text);
        }
        long before = threads.getCurrentThreadAllocatedBytes();
        for (int i = 0; i < ROUNDS; i++) {
            allCalls(feed, text);
        }
        long made = threads.getCurrentThreadAllocatedBytes() - before;
        DUE.holds("bytes made by " + ROUNDS + " rounds of all calls: " + made, made < ROUNDS * 16L);
    }

    private static int allCalls(ChangeFeed feed, long text) {
        feed.wipe();
        feed.put(text);
        feed.put('9');
        int answers = feed.save(0) + feed.turn(0, 2) + feed.set(0, 1) + feed.remove(0) + feed.pass(1) + feed.thin()
            + feed.snapshot() + feed.reader() + feed.read(0, 9) + feed.confirm(0) + feed.goBack(0) + feed.load(0, 0)
            + feed.beginAnew(0) + feed.table(0) + feed.view(0, 0) + feed.entry(0, 4) + feed.ofReader(0, 5)
            + feed.ofSnapshot(0, 1) + feed.count(7) + feed.leftIn(5) + feed.lateIn(5) + feed.shortest(0, 0)
            + feed.gentlest() + feed.fault() + feed.carryOut() + feed.undo();
        return answers + feed.restore(0);
    }
}
