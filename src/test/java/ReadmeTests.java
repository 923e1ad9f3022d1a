import java.lang.reflect.Method;
import java.lang.reflect.Modifier;
import java.nio.file.Files;
import java.nio.file.Path;
import java.util.Arrays;
import java.util.Set;
import java.util.TreeSet;
import java.util.regex.Matcher;
import java.util.regex.Pattern;

/** README.md shows calls with their answers: each line of them is called here, on one object. */
public final class ReadmeTests {
    private static final Checks CHECKS = new Checks();
    private static final Pattern BLOCK = Pattern.compile("(?s)```java\n(.*?)```");
    private static final Pattern CALL = Pattern.compile("x\\.(\\w+)\\((.*?)\\);\\s+// (-?\\d+)\\b.*");

    private ReadmeTests() {
    }

    public static void main(String[] args) throws Exception {
        Matcher block = BLOCK.matcher(Files.readString(Path.of("README.md")));
        CHECKS.holds("README.md shows calls", block.find());
        TestedLoops x = new TestedLoops();
        Set<String> shown = new TreeSet<>();
        for (String line : block.group(1).split("\n")) {
            Matcher call = CALL.matcher(line);
            if (call.matches()) {
                shown.add(call.group(1));
                CHECKS.due(line, answer(x, call.group(1), call.group(2)), Long.parseLong(call.group(3)));
            } else {
                CHECKS.holds(line + " is no call", line.isBlank() || line.contains("new TestedLoops()"));
            }
        }
        everyCallIsShown(shown);
        CHECKS.finish("ReadmeTests");
    }

    private static void everyCallIsShown(Set<String> shown) {
        for (Method method : publicMethods()) {
            CHECKS.holds(method.getName() + " is shown", shown.contains(method.getName()));
        }
    }

    private static Method[] publicMethods() {
        return Arrays.stream(TestedLoops.class.getDeclaredMethods())
            .filter(method -> Modifier.isPublic(method.getModifiers()))
            .toArray(Method[]::new);
    }

    private static long answer(TestedLoops x, String name, String told) throws Exception {
        for (Method method : publicMethods()) {
            if (method.getName().equals(name)) {
                return ((Number) method.invoke(x, numbers(method, told))).longValue();
            }
        }
        throw new IllegalStateException("there is no call " + name);
    }

    private static Object[] numbers(Method method, String told) {
        Class<?>[] types = method.getParameterTypes();
        String[] words = told.isEmpty() ? new String[0] : told.split(", ");
        Object[] numbers = new Object[words.length];
        for (int k = 0; k < words.length; k++) {
            long number = Long.decode(words[k].replace("L", ""));
            numbers[k] = k < types.length && types[k] == int.class ? (Object) (int) number : (Object) number;
        }
        return numbers;
    }
}
