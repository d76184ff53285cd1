import java.io.IOException;
import java.lang.reflect.Constructor;
import java.lang.reflect.Field;
import java.lang.reflect.Method;
import java.lang.reflect.Modifier;
import java.nio.file.Files;
import java.nio.file.Path;
import java.util.Arrays;
import java.util.TreeSet;

/** The face of the document, and what of LANGUAGE.md a look at the class and at its text can tell. */
public final class FaceTest {
    private static final Due DUE = new Due("FaceTest");

    private static final String[] FACE = {
        "beginAnew(int)", "carryOut()", "confirm(int)", "count(int)", "entry(int,int)", "fault()", "gentlest()",
        "goBack(int)", "lateIn(int)", "leftIn(int)", "load(int,int)", "ofReader(int,int)", "ofSnapshot(int,int)",
        "pass(int)", "put(long)", "read(int,int)", "reader()", "remove(int)", "restore(int)", "save(int)",
        "set(int,int)", "shortest(int,int)", "snapshot()", "table(int)", "thin()", "turn(int,int)", "undo()",
        "view(int,int)", "wipe()"};
    private static final String[] CONSTANTS = {
        "BAD_TEXT=-3", "BAD_VALUE=-2", "GRACE=1", "NONE=-6", "NOT_POSSIBLE=-5", "NO_SUCH=-1", "SIZE=0", "TOO_MANY=-4"};

    public static void main(String[] args) throws Exception {
        methods();
        constants();
        constructors();
        classesInside();
        text();
        DUE.end();
    }

    private static void methods() {
        TreeSet<String> shown = new TreeSet<>();
        TreeSet<String> publicNames = new TreeSet<>();
        for (Method method : ChangeFeed.class.getDeclaredMethods()) {
            if (!Modifier.isPrivate(method.getModifiers())) {
                StringBuilder types = new StringBuilder();
                for (Class<?> type : method.getParameterTypes()) {
                    types.append(types.length() == 0 ? "" : ",").append(type.getName());
                }
                shown.add(method.getName() + "(" + types + ")");
                publicNames.add(method.getName());
                DUE.is("modifiers of " + method.getName(), method.getModifiers(), Modifier.PUBLIC);
                DUE.holds("type of " + method.getName(), method.getReturnType() == int.class);
            }
        }
        DUE.holds("the methods " + shown, shown.equals(new TreeSet<>(Arrays.asList(FACE))));
        for (Method method : ChangeFeed.class.getDeclaredMethods()) {
            DUE.holds("no private method has a public one's name: " + method.getName(),
                !Modifier.isPrivate(method.getModifiers()) || !publicNames.contains(method.getName()));
        }
    }

    private static void constants() throws IllegalAccessException {
        TreeSet<String> shown = new TreeSet<>();
        for (Field field : ChangeFeed.class.getDeclaredFields()) {
            if (!Modifier.isPrivate(field.getModifiers())) {
                DUE.is("modifiers of " + field.getName(), field.getModifiers(),
                    Modifier.PUBLIC | Modifier.STATIC | Modifier.FINAL);
                shown.add(field.getName() + "=" + field.getInt(null));
            }
        }
        DUE.holds("the constants " + shown, shown.equals(new TreeSet<>(Arrays.asList(CONSTANTS))));
    }

    private static void constructors() {
        Constructor<?>[] constructors = ChangeFeed.class.getDeclaredConstructors();
        DUE.is("constructors", constructors.length, 1);
        DUE.is("modifiers of the constructor", constructors[0].getModifiers(), Modifier.PUBLIC);
        DUE.is("its parameters", constructors[0].getParameterCount(), 0);
        DUE.is("modifiers of the class", ChangeFeed.class.getModifiers(), Modifier.PUBLIC | Modifier.FINAL);
    }

    private static void classesInside() {
        DUE.holds("some twelve classes", ChangeFeed.class.getDeclaredClasses().length < 12);
        for (Class<?> inside : ChangeFeed.class.getDeclaredClasses()) {
            DUE.holds(inside + " is static", Modifier.isStatic(inside.getModifiers()));
            DUE.holds(inside + " is not shown", (inside.getModifiers() & (Modifier.PUBLIC | Modifier.PROTECTED)) == 0);
            DUE.is(inside + " holds no class", inside.getDeclaredClasses().length, 0);
            int fields = 0;
            for (Field field : inside.getDeclaredFields()) {
                boolean isStatic = Modifier.isStatic(field.getModifiers());
                DUE.holds(field + " is final if static", !isStatic || Modifier.isFinal(field.getModifiers()));
                fields += isStatic ? 0 : 1;
            }
            DUE.holds(inside + " has some twenty fields", fields <= 20);
        }
    }

    private static void text() throws IOException {
        String text = Files.readString(Path.of("src/main/java/ChangeFeed.java"));
        String code = text.replaceAll("(?s)/\\*.*?\\*/", " ").replaceAll("//[^\n]*", " ");
        String[] words = {"throw", "throws", "try", "catch", "finally", "synchronized", "assert", "import", "package",
            "float", "double", "Object", "Exception", "System", "Thread", "equals", "hashCode", "toString"};
        for (String word : words) {
            DUE.holds("no " + word, !code.matches("(?s).*\\b" + word + "\\b.*"));
        }
        DUE.holds("no lambda and no method reference", !code.contains("->") && !code.contains("::"));
        DUE.holds("characters of ASCII", text.chars().allMatch(sign -> sign == '\n' || sign >= 32 && sign < 127));
    }
}
