import java.lang.reflect.Constructor;
import java.lang.reflect.Field;
import java.lang.reflect.Method;
import java.lang.reflect.Modifier;
import java.util.Arrays;
import java.util.TreeSet;

/** The class has the document's face, and nothing more of it can be seen from outside. */
public final class FaceTest {
    private static final String[] FACE = {
        "append(int) int IllegalArgumentException IllegalStateException",
        "appendMany(int,int,int) int IllegalArgumentException IllegalStateException",
        "insert(int) int IllegalArgumentException IllegalStateException",
        "remove(int) int NoSuchElementException",
        "merge() int",
        "rebuild(int,int) int IllegalArgumentException",
        "size() int",
        "contains(int) boolean",
        "rank(int) int",
        "select(int) int IndexOutOfBoundsException",
        "ceiling(int) int NoSuchElementException",
        "count(int,int) int",
        "place(int) int",
        "guess(int) long IllegalArgumentException",
        "looks(int) int IllegalArgumentException",
        "worstError() int",
        "pieces() int",
        "start(int) int IndexOutOfBoundsException",
        "firstKey(int) int IndexOutOfBoundsException",
        "rise(int) int IndexOutOfBoundsException",
        "run(int) int IndexOutOfBoundsException",
        "slopes() int",
        "commonest() int",
        "buffered() int",
        "marked() int",
        "rowSize() int",
        "merges() int",
        "splits() int",
        "joins() int",
    };

    private FaceTest() {
    }

    public static void main(String[] args) {
        Check.due("class", "public final", Modifier.toString(LearnedLedge.class.getModifiers()));
        TreeSet<String> seen = new TreeSet<>();
        TreeSet<String> names = new TreeSet<>();
        for (Method method : LearnedLedge.class.getDeclaredMethods()) {
            if (!Modifier.isPrivate(method.getModifiers())) {
                seen.add(describe(method));
                names.add(method.getName());
            }
        }
        Check.due("methods", new TreeSet<>(Arrays.asList(FACE)).toString(), seen.toString());
        for (Method method : LearnedLedge.class.getDeclaredMethods()) {
            boolean hidden = Modifier.isPrivate(method.getModifiers());
            Check.due("private " + method.getName(), 0, hidden && names.contains(method.getName()) ? 1 : 0);
        }
        constructorsAndFields();
        Check.end("FaceTest");
    }

    private static void constructorsAndFields() {
        Constructor<?>[] made = LearnedLedge.class.getDeclaredConstructors();
        Check.due("constructors", 1, made.length);
        Check.due("constructor", "public LearnedLedge()", made[0].toString());
        for (Field field : LearnedLedge.class.getDeclaredFields()) {
            String modifiers = Modifier.toString(field.getModifiers());
            boolean constant = field.getName().equals("NONE");
            boolean fits = constant ? modifiers.equals("public static final") : modifiers.startsWith("private");
            Check.due("field " + field.getName(), 1, fits ? 1 : 0);
        }
        for (Class<?> inside : LearnedLedge.class.getDeclaredClasses()) {
            boolean fits = Modifier.isStatic(inside.getModifiers())
                    && !Modifier.isPublic(inside.getModifiers()) && !Modifier.isProtected(inside.getModifiers());
            Check.due("class inside " + inside.getSimpleName(), 1, fits ? 1 : 0);
        }
    }

    private static String describe(Method method) {
        StringBuilder text = new StringBuilder(method.getName()).append('(');
        for (Class<?> type : method.getParameterTypes()) {
            text.append(text.charAt(text.length() - 1) == '(' ? "" : ",").append(type.getSimpleName());
        }
        text.append(") ").append(method.getReturnType().getSimpleName());
        for (Class<?> type : method.getExceptionTypes()) {
            text.append(' ').append(type.getSimpleName());
        }
        return Modifier.isPublic(method.getModifiers()) ? text.toString() : "not public: " + text;
    }
}
