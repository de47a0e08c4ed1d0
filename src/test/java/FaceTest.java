import java.lang.reflect.Constructor;
import java.lang.reflect.Field;
import java.lang.reflect.Method;
import java.lang.reflect.Modifier;
import java.nio.file.Files;
import java.nio.file.Path;
import java.util.Arrays;
import java.util.TreeSet;

/** The class has the document's face, and nothing more of it can be seen from outside. */
public final class FaceTest {
    private static final String[] FACE = {
        "append(int) int IllegalArgumentException IllegalStateException",
        "appendMany(int,int,int) int IllegalArgumentException IllegalStateException",
        "insert(int) int IllegalArgumentException IllegalStateException",
        "remove(int) int NoSuchElementException",
        "merge() int",
        "rebuild(int,int) int IllegalArgumentException",
        "size() int",
        "contains(int) boolean",
        "rank(int) int",
        "select(int) int IndexOutOfBoundsException",
        "ceiling(int) int NoSuchElementException",
        "count(int,int) int",
        "place(int) int",
        "guess(int) long IllegalArgumentException",
        "looks(int) int IllegalArgumentException",
        "worstError() int",
        "pieces() int",
        "start(int) int IndexOutOfBoundsException",
        "firstKey(int) int IndexOutOfBoundsException",
        "rise(int) int IndexOutOfBoundsException",
        "run(int) int IndexOutOfBoundsException",
        "slopes() int",
        "commonest() int",
        "buffered() int",
        "marked() int",
        "rowSize() int",
        "merges() int",
        "splits() int",
        "joins() int",
    };

    /** As the document writes it, with what it says ahead of the calls; white space and names in short. */
    private static final String[] WRITTEN = {
        "public final class LearnedLedge {",
        "public static final int NONE = -1;",
        "public LearnedLedge() {",
        "// ---- keys that come and go public int append(int key)"
                + " throws IllegalArgumentException, IllegalStateException {",
        "public int appendMany(int first, int step, int many) throws IllegalArgumentException, IllegalStateException {",
        "public int insert(int key) throws IllegalArgumentException, IllegalStateException {",
        "public int remove(int key) throws NoSuchElementException {",
        "public int merge() {",
        "public int rebuild(int bound, int room) throws IllegalArgumentException {",
        "// ---- keys in their order public int size() {",
        "public boolean contains(int key) {",
        "public int rank(int key) {",
        "public int select(int place) throws IndexOutOfBoundsException {",
        "public int ceiling(int key) throws NoSuchElementException {",
        "public int count(int low, int high) {",
        "// ---- looking up in the row public int place(int key) {",
        "public long guess(int key) throws IllegalArgumentException {",
        "public int looks(int key) throws IllegalArgumentException {",
        "public int worstError() {",
        "// ---- pieces public int pieces() {",
        "public int start(int piece) throws IndexOutOfBoundsException {",
        "public int firstKey(int piece) throws IndexOutOfBoundsException {",
        "public int rise(int piece) throws IndexOutOfBoundsException {",
        "public int run(int piece) throws IndexOutOfBoundsException {",
        "public int slopes() {",
        "public int commonest() {",
        "// ---- the buffer and its work public int buffered() {",
        "public int marked() {",
        "public int rowSize() {",
        "public int merges() {",
        "public int splits() {",
        "public int joins() {",
    };

    private FaceTest() {
    }

    public static void main(String[] args) throws Exception {
        Check.due("class", "public final", Modifier.toString(LearnedLedge.class.getModifiers()));
        TreeSet<String> seen = new TreeSet<>();
        TreeSet<String> names = new TreeSet<>();
        for (Method method : LearnedLedge.class.getDeclaredMethods()) {
            if (!Modifier.isPrivate(method.getModifiers())) {
                seen.add(describe(method));
                names.add(method.getName());
            }
        }
        Check.due("methods", new TreeSet<>(Arrays.asList(FACE)).toString(), seen.toString());
        for (Method method : LearnedLedge.class.getDeclaredMethods()) {
            boolean hidden = Modifier.isPrivate(method.getModifiers());
            Check.due("private " + method.getName(), 0, hidden && names.contains(method.getName()) ? 1 : 0);
        }
        constructorsAndFields();
        typesAround();
        asWritten(Files.readString(Path.of("src/main/java/LearnedLedge.java")).replaceAll("\\s+", " "));
        Check.end("FaceTest");
    }

    private static void constructorsAndFields() {
        Constructor<?>[] made = LearnedLedge.class.getDeclaredConstructors();
        Check.due("constructors", 1, made.length);
        Check.due("constructor", "public LearnedLedge()", made[0].toString());
        for (Field field : LearnedLedge.class.getDeclaredFields()) {
            String modifiers = Modifier.toString(field.getModifiers());
            boolean constant = field.getName().equals("NONE");
            boolean fits = constant ? modifiers.equals("public static final") : modifiers.startsWith("private");
            Check.due("field " + field.getName(), 1, fits ? 1 : 0);
        }
        for (Class<?> inside : LearnedLedge.class.getDeclaredClasses()) {
            boolean fits = Modifier.isStatic(inside.getModifiers())
                    && !Modifier.isPublic(inside.getModifiers()) && !Modifier.isProtected(inside.getModifiers());
            Check.due("class inside " + inside.getSimpleName(), 1, fits ? 1 : 0);
        }
    }

    /** "public final class LearnedLedge" and "public static final int NONE", with nothing above or beside. */
    private static void typesAround() throws Exception {
        Check.due("type of NONE", "int", LearnedLedge.class.getDeclaredField("NONE").getType().getName());
        Check.due("class above", "java.lang.Object", LearnedLedge.class.getSuperclass().getName());
        Check.due("interfaces", 0, LearnedLedge.class.getInterfaces().length);
    }

    /** The face stands in the source in the document's order and words. */
    private static void asWritten(String source) {
        int from = 0;
        for (String member : WRITTEN) {
            int found = source.indexOf(member, from);
            Check.due("in its place: " + member, 1, found >= from ? 1 : 0);
            from = Math.max(from, found);
        }
    }

    private static String describe(Method method) {
        StringBuilder text = new StringBuilder(method.getName()).append('(');
        for (Class<?> type : method.getParameterTypes()) {
            text.append(text.charAt(text.length() - 1) == '(' ? "" : ",").append(type.getSimpleName());
        }
        text.append(") ").append(method.getReturnType().getSimpleName());
        for (Class<?> type : method.getExceptionTypes()) {
            text.append(' ').append(type.getSimpleName());
        }
        return Modifier.isPublic(method.getModifiers()) ? text.toString() : "not public: " + text;
    }
}
