import java.io.IOException;
import java.lang.reflect.Method;
import java.nio.file.Files;
import java.nio.file.Path;
import java.util.HashMap;
import java.util.List;
import java.util.Map;
import java.util.regex.Matcher;
import java.util.regex.Pattern;

/**
 * The examples of README.md (its java blocks), read from README.md itself, so that what it tells can't go its own way:
 * each call is due to answer the number at the head of its remark.
 */
public final class ReadmeTest {
    private static final Due DUE = new Due("ReadmeTest");
    private static final Pattern NEW = Pattern.compile("ChestnutCorner (\\w+) = new ChestnutCorner\\(\\);");
    private static final Pattern CALL =
            Pattern.compile("(?:int (\\w+) = )?(\\w+)\\.(\\w+)\\(([^()]*)\\); *// (-?\\d+): .+");

    private static final Map<String, ChestnutCorner> OBJECTS = new HashMap<>();
    private static final Map<String, Integer> NUMBERS = new HashMap<>();

    public static void main(String[] args) throws IOException, ReflectiveOperationException {
        boolean inExample = false;
        int calls = 0;
        for (String line : Files.readAllLines(Path.of("README.md"))) {
            if (line.startsWith("```")) {
                inExample = line.equals("```java");
            } else if (inExample && !made(line)) {
                DUE.holds("a new object, or a call with its answer: " + line, called(line));
                calls++;
            }
        }
        DUE.holds("there are examples in README.md", calls > 0);
        DUE.holds("bags are sold for coin in one of them", anySold());
        DUE.end();
    }

    private static boolean made(String line) {
        Matcher m = NEW.matcher(line);
        if (!m.matches()) {
            return false;
        }
        DUE.holds("no name is told twice: " + line, OBJECTS.put(m.group(1), new ChestnutCorner()) == null);
        return true;
    }

    private static boolean called(String line) throws ReflectiveOperationException {
        Matcher m = CALL.matcher(line);
        if (!m.matches() || !OBJECTS.containsKey(m.group(2))) {
            return false;
        }
        Object[] arguments = argumentsOf(m.group(4));
        Method call = callOf(m.group(3), arguments.length);
        if (call == null) {
            return false;
        }
        int answer = (Integer) call.invoke(OBJECTS.get(m.group(2)), arguments);
        DUE.is(line + " ..", answer, Integer.parseInt(m.group(5)));
        if (m.group(1) != null) {
            DUE.holds("no name is told twice: " + line, NUMBERS.put(m.group(1), answer) == null);
        }
        return true;
    }

    /** Numbers as they are written, or the names of earlier answers. */
    private static Object[] argumentsOf(String told) {
        if (told.isEmpty()) {
            return new Object[0];
        }
        String[] parts = told.split(", ");
        Object[] arguments = new Object[parts.length];
        for (int i = 0; i < parts.length; i++) {
            Integer earlier = NUMBERS.get(parts[i]);
            arguments[i] = earlier != null ? earlier : Integer.decode(parts[i]);
        }
        return arguments;
    }

    private static Method callOf(String name, int arguments) {
        for (Method m : List.of(ChestnutCorner.class.getMethods())) {
            if (m.getDeclaringClass() == ChestnutCorner.class && m.getName().equals(name)
                    && m.getParameterCount() == arguments) {
                return m;
            }
        }
        return null;
    }

    private static boolean anySold() {
        for (ChestnutCorner x : OBJECTS.values()) {
            if (x.now(5) > 0 && x.now(1) > 0) {
                return true;
            }
        }
        return false;
    }
}
