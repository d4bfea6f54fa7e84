import java.io.IOException;
import java.lang.reflect.InvocationTargetException;
import java.lang.reflect.Method;
import java.nio.charset.StandardCharsets;
import java.nio.file.Files;
import java.nio.file.Path;
import java.util.ArrayList;
import java.util.Arrays;
import java.util.HashSet;
import java.util.List;
import java.util.Map;
import java.util.Set;
import java.util.regex.Matcher;
import java.util.regex.Pattern;

/** README.md: its example, call for call, each with its answer, and its tables of the calls. */
final class ReadmeTest {
    private static final Path FILE = Path.of("README.md");
    private static final Pattern MAKING = Pattern.compile("Flowforge shop = new Flowforge\\(\\);( +// .+)?");
    /** What stands behind a colon explains the answer. */
    private static final Pattern CALL = Pattern.compile(
        "shop\\.(\\w+)\\((|-?\\d+(?:, -?\\d+)*)\\); +// (throws \\w+|-?\\d+(?:\\.\\d+)?|true|false)(?:: .+)?");
    private static final Pattern ROW = Pattern.compile("\\| `(\\w+)\\(([^)]*)\\)` \\| (.+) \\| (.*)\\|");
    private static final Pattern THROWN = Pattern.compile("`(\\w+)` if ");
    private static final String TITLE = "### ";
    private static final String BLOCK = "```java";
    private static final String END_OF_BLOCK = "```";

    private static final Check CHECK = new Check("ReadmeTest");

    /** The object of the example; it is made in its first line. */
    private Flowforge shop;
    private final Set<String> called = new HashSet<>();

    public static void main(String[] args) throws IOException {
        List<String> lines = Files.readAllLines(FILE, StandardCharsets.UTF_8);
        new ReadmeTest().runExample(lines);
        for (Map.Entry<String, List<String>> group : Document.groups().entrySet()) {
            readTable(group.getKey(), group.getValue(), lines);
        }
        CHECK.same("number of groups", 4, Document.groups().size());
        CHECK.end();
    }

    private void runExample(List<String> lines) {
        boolean inside = false;
        for (String line : lines) {
            if (inside && line.equals(END_OF_BLOCK)) {
                inside = false;
            } else if (inside) {
                runLine(line);
            } else {
                inside = line.equals(BLOCK);
            }
        }
        CHECK.same("the example ends", false, inside);
        for (Method method : faceMethods()) {
            CHECK.same("the example calls " + method.getName(), true, called.contains(method.getName()));
        }
    }

    private void runLine(String line) {
        if (shop == null) {
            CHECK.same("first line of the example, '" + line + "', makes an object", true, MAKING.matcher(line).matches());
            shop = new Flowforge();
            return;
        }
        Matcher call = CALL.matcher(line);
        CHECK.same("'" + line + "' is a call with its answer", true, call.matches());
        if (call.matches()) {
            called.add(call.group(1));
            CHECK.same("README.md has another answer for '" + line + "', which", call.group(3),
                answer(call.group(1), numbers(call.group(2))));
        }
    }

    private static Object[] numbers(String list) {
        List<Object> numbers = new ArrayList<>();
        if (!list.isEmpty()) {
            for (String number : list.split(", ")) {
                numbers.add(Integer.valueOf(number));
            }
        }
        return numbers.toArray();
    }

    private String answer(String name, Object[] arguments) {
        Class<?>[] types = new Class<?>[arguments.length];
        Arrays.fill(types, int.class);
        try {
            return String.valueOf(Flowforge.class.getMethod(name, types).invoke(shop, arguments));
        } catch (InvocationTargetException e) {
            return "throws " + e.getCause().getClass().getSimpleName();
        } catch (NoSuchMethodException | IllegalAccessException e) {
            return "there is no such call";
        }
    }

    /** The table under the title of a group has a row for each of its calls, in the order of the document. */
    private static void readTable(String title, List<String> calls, List<String> lines) {
        List<String> names = new ArrayList<>();
        boolean inside = false;
        for (String line : lines) {
            if (line.startsWith("#")) {
                inside = line.equals(TITLE + title);
            }
            Matcher row = ROW.matcher(line);
            if (inside && row.matches()) {
                names.add(row.group(1));
                readRow(row.group(1), row.group(2), row.group(4));
            }
        }
        CHECK.same("calls under '" + title + "'", calls, names);
    }

    private static void readRow(String name, String parameters, String thrown) {
        for (Method method : faceMethods()) {
            if (method.getName().equals(name)) {
                int count = parameters.isEmpty() ? 0 : parameters.split(", ").length;
                CHECK.same("parameters of " + name, method.getParameterCount(), count);
                List<String> told = new ArrayList<>();
                for (Matcher each = THROWN.matcher(thrown); each.find();) {
                    told.add(each.group(1));
                }
                CHECK.same("exceptions of " + name, exceptionsOf(method), told);
            }
        }
    }

    private static List<String> exceptionsOf(Method method) {
        List<String> names = new ArrayList<>();
        for (Class<?> exception : method.getExceptionTypes()) {
            names.add(exception.getSimpleName());
        }
        return names;
    }

    private static List<Method> faceMethods() {
        List<Method> methods = new ArrayList<>();
        for (Method method : Flowforge.class.getMethods()) {
            if (method.getDeclaringClass() == Flowforge.class) {
                methods.add(method);
            }
        }
        return methods;
    }
}
