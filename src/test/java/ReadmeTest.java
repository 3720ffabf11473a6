import java.lang.reflect.Method;
import java.lang.reflect.Modifier;
import java.nio.charset.StandardCharsets;
import java.nio.file.Files;
import java.nio.file.Path;
import java.util.List;
import java.util.regex.Matcher;
import java.util.regex.Pattern;

/** README.md says how to use the class: its example answers as it says, and its table has each call. */
public final class ReadmeTest {
    private static final Pattern CALL = Pattern.compile("t\\.(\\w+)\\(([^)]*)\\); +// (-?\\d+|true|false)(: .*)?");
    private static final Checks checks = new Checks();

    public static void main(String[] args) throws Exception {
        List<String> lines = Files.readAllLines(Path.of("README.md"), StandardCharsets.UTF_8);
        runExample(lines);
        checkTable(lines);
        checks.due("says how to run the tests", true, lines.contains(".ci/run"));
        checks.end();
    }

    private static void runExample(List<String> lines) throws ReflectiveOperationException {
        SpatialTables t = null;
        int calls = 0;
        for (String line : lines) {
            Matcher call = CALL.matcher(line);
            if (line.equals("SpatialTables t = new SpatialTables();")) {
                t = new SpatialTables();
            } else if (call.matches()) {
                calls++;
                checks.due(line, numberOf(call.group(3)), numberOf(answer(t, call.group(1), call.group(2))));
            } else {
                checks.due("a call without its answer: " + line, false, line.startsWith("t."));
            }
        }
        checks.due("has an example", true, calls > 0);
    }

    private static String answer(SpatialTables t, String name, String arguments) throws ReflectiveOperationException {
        String[] texts = arguments.isEmpty() ? new String[0] : arguments.split(", ");
        Object[] values = new Object[texts.length];
        for (int i = 0; i < texts.length; i++) {
            values[i] = argument(texts[i]);
        }
        return String.valueOf(methodOf(name).invoke(t, values));
    }

    private static Object argument(String text) throws ReflectiveOperationException {
        if (text.startsWith("SpatialTables.")) {
            return SpatialTables.class.getField(text.substring("SpatialTables.".length())).getInt(null);
        }
        return text.equals("true") || text.equals("false") ? (Object) text.equals("true") : Integer.valueOf(text);
    }

    private static Method methodOf(String name) {
        for (Method method : SpatialTables.class.getDeclaredMethods()) {
            if (method.getName().equals(name)) {
                return method;
            }
        }
        throw new IllegalStateException("no such call: " + name);
    }

    private static int numberOf(String answer) {
        return answer.equals("true") ? 1 : answer.equals("false") ? 0 : Integer.parseInt(answer);
    }

    private static void checkTable(List<String> lines) {
        for (Method method : SpatialTables.class.getDeclaredMethods()) {
            if (Modifier.isPublic(method.getModifiers())) {
                boolean told = lines.stream().anyMatch(line -> line.startsWith("| `" + method.getName() + "("));
                checks.due("has " + method.getName(), true, told);
            }
        }
    }
}
