import java.io.IOException;
import java.lang.reflect.InvocationTargetException;
import java.lang.reflect.Method;
import java.lang.reflect.Modifier;
import java.nio.file.Files;
import java.nio.file.Path;
import java.util.ArrayList;
import java.util.List;
import java.util.Map;
import java.util.TreeMap;
import java.util.TreeSet;
import java.util.regex.Matcher;
import java.util.regex.Pattern;

/** Runs the example of README.md row by row, read from the file itself, so that the two never drift apart. */
public final class ReadmeTest {
    private static final Path README = Path.of("README.md");
    private static final Pattern MADE = Pattern.compile("KeyWalks piece = new KeyWalks\\(\\);");
    private static final Pattern CALL = Pattern.compile("piece\\.(\\w+)\\(([-\\d, ]*)\\); +// ([^,]+)(, .+)?");

    private static final Check check = new Check();
    private static final Map<String, Method> face = face();
    private static final TreeSet<String> shown = new TreeSet<>();

    private static KeyWalks piece = null;
    private static int calls = 0;

    public static void main(String[] args) throws IOException {
        for (String row : exampleRows()) {
            run(row);
        }
        check.same("the calls that the example shows", new TreeSet<>(face.keySet()), shown);
        check.same("an object's calls are 512 at most", true, calls <= 512);
        check.end();
    }

    private static Map<String, Method> face() {
        Map<String, Method> methods = new TreeMap<>();
        for (Method method : KeyWalks.class.getDeclaredMethods()) {
            if (Modifier.isPublic(method.getModifiers())) {
                methods.put(method.getName(), method);
            }
        }
        return methods;
    }

    private static List<String> exampleRows() throws IOException {
        List<String> rows = new ArrayList<>();
        boolean inExample = false;
        for (String line : Files.readAllLines(README)) {
            if (line.startsWith("```")) {
                inExample = line.equals("```java");
            } else if (inExample && !line.isBlank()) {
                rows.add(line);
            }
        }
        return rows;
    }

    private static void run(String row) {
        Matcher call = CALL.matcher(row);
        if (MADE.matcher(row).matches()) {
            piece = new KeyWalks();
        } else if (piece != null && call.matches() && takes(call.group(1), numbers(call.group(2)).length)) {
            runCall(row, face.get(call.group(1)), numbers(call.group(2)), call.group(3));
        } else {
            check.same(row, "a row that can be run", "none");
        }
    }

    private static String[] numbers(String text) {
        return text.isEmpty() ? new String[0] : text.split(", ");
    }

    /** Looked at ahead of the call: reflection refuses a wrong number of arguments with the document's exception. */
    private static boolean takes(String name, int arguments) {
        return face.containsKey(name) && face.get(name).getParameterCount() == arguments;
    }

    private static void runCall(String row, Method method, String[] numbers, String told) {
        Object[] arguments = new Object[numbers.length];
        for (int at = 0; at < numbers.length; at++) {
            boolean isLong = method.getParameterTypes()[at] == long.class;
            arguments[at] = isLong ? (Object) Long.valueOf(numbers[at]) : (Object) Integer.valueOf(numbers[at]);
        }
        calls++;
        shown.add(method.getName());
        check.due(row, due(told), () -> answer(method, arguments));
    }

    private static String due(String told) {
        return told.equals("NONE") ? String.valueOf(KeyWalks.NONE) : told.replace("throws ", "throws.");
    }

    private static Object answer(Method method, Object[] arguments) {
        try {
            return method.invoke(piece, arguments);
        } catch (InvocationTargetException e) {
            if (e.getCause() instanceof RuntimeException thrown) {
                throw thrown;
            }
            throw new AssertionError(e);
        } catch (IllegalAccessException e) {
            throw new AssertionError(e);
        }
    }
}
