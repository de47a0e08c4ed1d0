import java.lang.reflect.InvocationTargetException;
import java.lang.reflect.Method;
import java.lang.reflect.Modifier;
import java.nio.file.Files;
import java.nio.file.Path;
import java.util.ArrayList;
import java.util.List;
import java.util.TreeSet;
import java.util.regex.Matcher;
import java.util.regex.Pattern;

/** README.md agrees with the class: its example answers as it says, and its tables have the face's calls. */
public final class ReadmeTest {
    private static final Pattern ASKED =
            Pattern.compile("ledge\\.(\\w+)\\(([-0-9, ]*)\\);\\s+// (throws \\w+|-?[0-9]+|true|false)(?!\\w).*");
    private static final Pattern ROW =
            Pattern.compile("\\| `(\\w+)\\(([\\w, ]*)\\)` \\|([^|]*)\\|([^|]*)\\|([^|]*)\\|");
    private static final Pattern EXCEPTION = Pattern.compile("`(\\w+Exception)`: [^;]+");

    private final LearnedLedge ledge = new LearnedLedge();
    private final TreeSet<String> told = new TreeSet<>();

    private ReadmeTest() {
    }

    public static void main(String[] args) throws Exception {
        List<String> lines = Files.readAllLines(Path.of("README.md"));
        ReadmeTest test = new ReadmeTest();
        test.example(lines);
        test.tables(lines);
        test.testsNamed(String.join("\n", lines));
        Check.end("ReadmeTest");
    }

    private void example(List<String> lines) throws Exception {
        int line = lines.indexOf("```java") + 1;
        Check.due("the example begins with", "LearnedLedge ledge = new LearnedLedge();", lines.get(line));
        int asked = 0;
        for (line++; !lines.get(line).equals("```"); line++) {
            Matcher call = ASKED.matcher(lines.get(line));
            if (call.matches()) {
                asked++;
                Check.due(lines.get(line), call.group(3), answer(call.group(1), numbers(call.group(2))));
            } else {
                Check.due("a line that asks nothing", "", lines.get(line));
            }
        }
        Check.due("the example asks", 1, asked > 20 ? 1 : 0);
    }

    private static Object[] numbers(String text) {
        List<Object> numbers = new ArrayList<>();
        for (String number : text.split(", ")) {
            if (!number.isEmpty()) {
                numbers.add(Integer.valueOf(number));
            }
        }
        return numbers.toArray();
    }

    private String answer(String name, Object[] numbers) throws Exception {
        try {
            return String.valueOf(method(name).invoke(ledge, numbers));
        } catch (InvocationTargetException thrown) {
            return "throws " + thrown.getCause().getClass().getSimpleName();
        }
    }

    private static Method method(String name) {
        for (Method method : LearnedLedge.class.getDeclaredMethods()) {
            if (method.getName().equals(name) && Modifier.isPublic(method.getModifiers())) {
                return method;
            }
        }
        throw new IllegalStateException("README.md has a call that the class does not have: " + name);
    }

    /** Each call of the face has one row, with as many numbers as it takes and its exceptions in their order. */
    private void tables(List<String> lines) {
        for (String line : lines) {
            Matcher row = ROW.matcher(line);
            if (row.matches()) {
                Method method = method(row.group(1));
                Check.due("rows of " + row.group(1), 1, told.add(row.group(1)) ? 1 : 0);
                Check.due(row.group(1) + " takes", method.getParameterCount(), row.group(2).isEmpty() ? 0
                        : row.group(2).split(", ").length);
                Check.due(row.group(1) + " throws", declared(method), written(row.group(5)));
            }
        }
        TreeSet<String> face = new TreeSet<>();
        for (Method method : LearnedLedge.class.getDeclaredMethods()) {
            if (Modifier.isPublic(method.getModifiers())) {
                face.add(method.getName());
            }
        }
        Check.due("calls that README.md tells", face.toString(), told.toString());
    }

    private static String declared(Method method) {
        List<String> names = new ArrayList<>();
        for (Class<?> exception : method.getExceptionTypes()) {
            names.add(exception.getSimpleName());
        }
        return names.toString();
    }

    private static String written(String cell) {
        List<String> names = new ArrayList<>();
        for (Matcher exception = EXCEPTION.matcher(cell); exception.find(); ) {
            names.add(exception.group(1));
        }
        return names.toString();
    }

    /** README.md tells of every test that .ci/run runs, and of the line that tells that they passed. */
    private void testsNamed(String page) throws Exception {
        try (var files = Files.list(Path.of("src/test/java"))) {
            for (Path file : files.filter(path -> path.toString().endsWith("Test.java")).toList()) {
                String name = file.getFileName().toString().replace(".java", "");
                Check.due("tells of " + name, 1, page.contains("`" + name + "`") ? 1 : 0);
            }
        }
        Check.due("tells of the last line", 1, page.contains("passed, 0 failed`") ? 1 : 0);
    }
}
