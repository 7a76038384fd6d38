import java.io.IOException;
import java.lang.reflect.Method;
import java.lang.reflect.Modifier;
import java.nio.file.Files;
import java.nio.file.Path;
import java.util.List;
import java.util.Map;
import java.util.TreeMap;
import java.util.regex.Matcher;
import java.util.regex.Pattern;

/** The examples of README.md answer what they say, and it names every call. Run where README.md stands. */
public final class ReadmeTest {
    private static final String NEW_OBJECT = "SealedChain chain = new SealedChain();";
    private static final Pattern CALL =
            Pattern.compile("(?:int (\\w+) = )?chain\\.(\\w+)\\((.*)\\); *// (-?\\d+|true|false)(?:: .*)?");

    private SealedChain chain = new SealedChain();
    private final Map<String, Integer> names = new TreeMap<>();
    private int calls = 0;
    private int wrong = 0;

    private ReadmeTest() {
    }

    public static void main(String[] args) throws IOException, ReflectiveOperationException {
        ReadmeTest test = new ReadmeTest();
        List<String> lines = Files.readAllLines(Path.of("README.md"));
        test.runExamples(lines);
        test.checkNamesAll(String.join("\n", lines));
        System.out.println(test.calls + " calls in examples, " + test.wrong + " faults");
        // A page whose examples are not found would pass for one that holds.
        if (test.wrong != 0 || test.calls == 0) {
            System.exit(1);
        }
    }

    private void fault(String text) {
        wrong++;
        System.out.println("README.md: " + text);
    }

    private void runExamples(List<String> lines) throws ReflectiveOperationException {
        boolean inExample = false;
        for (String line : lines) {
            if (line.startsWith("```")) {
                inExample = line.equals("```java");
            } else if (inExample) {
                runLine(line);
            }
        }
    }

    private void runLine(String line) throws ReflectiveOperationException {
        if (line.equals(NEW_OBJECT)) {
            chain = new SealedChain();
            names.clear();
            return;
        }
        Matcher call = CALL.matcher(line);
        if (!call.matches()) {
            fault("no call with its answer: " + line);
            return;
        }
        calls++;
        Object answer = methodOf(call.group(2)).invoke(chain, arguments(call.group(3)));
        if (!answer.toString().equals(call.group(4))) {
            fault(line + " -- answered " + answer);
        }
        if (call.group(1) != null) {
            names.put(call.group(1), (Integer) answer);
        }
    }

    private static Method methodOf(String name) throws NoSuchMethodException {
        for (Method method : SealedChain.class.getMethods()) {
            if (method.getName().equals(name)) {
                return method;
            }
        }
        throw new NoSuchMethodException(name);
    }

    private Object[] arguments(String text) {
        if (text.isEmpty()) {
            return new Object[0];
        }
        String[] parts = text.split(", ");
        Object[] values = new Object[parts.length];
        for (int i = 0; i < parts.length; i++) {
            values[i] = argument(parts[i]);
        }
        return values;
    }

    private Object argument(String text) {
        if (text.equals("true") || text.equals("false")) {
            return Boolean.valueOf(text);
        }
        return names.containsKey(text) ? names.get(text) : Integer.valueOf(text);
    }

    private void checkNamesAll(String page) {
        for (Method method : SealedChain.class.getDeclaredMethods()) {
            boolean shown = Modifier.isPublic(method.getModifiers());
            if (shown && !page.contains("`" + method.getName() + "(")) {
                fault("does not name " + method.getName());
            }
        }
    }
}
