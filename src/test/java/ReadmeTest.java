import java.io.IOException;
import java.lang.reflect.InvocationTargetException;
import java.lang.reflect.Method;
import java.nio.file.Files;
import java.nio.file.Path;
import java.util.ArrayList;
import java.util.List;
import java.util.Set;
import java.util.TreeSet;
import java.util.regex.Matcher;
import java.util.regex.Pattern;

/**
 * The example in README.md: makes its calls, in their order, and holds their answers to those that stand behind them.
 * It is run in the project's folder, where README.md lies.
 */
public final class ReadmeTest {
    private static final String MADE = "HookColours kitchen = new HookColours();";
    private static final Pattern CALL = Pattern.compile("kitchen\\.(\\w+)\\(([^)]*)\\);\\s+// ([^ :]+)(: .+)?");

    public static void main(String[] args) throws IOException {
        List<String> example = example(Files.readAllLines(Path.of("README.md")));
        Due.same("README.md: the example begins with the new object",
            !example.isEmpty() && example.get(0).equals(MADE), true);
        HookColours kitchen = new HookColours();
        Set<String> called = new TreeSet<>();
        for (String line : example.subList(Math.min(1, example.size()), example.size())) {
            goThrough(line, kitchen, called);
        }
        Due.same("README.md: the example calls each method", called.equals(face()), true);
        Due.end("ReadmeTest");
    }

    /** The lines of the page's Java, but for those that are empty or a comment. */
    private static List<String> example(List<String> page) {
        List<String> lines = new ArrayList<>();
        boolean inside = false;
        for (String line : page) {
            if (line.startsWith("```")) {
                inside = line.equals("```java");
            } else if (inside && !line.isBlank() && !line.startsWith("//")) {
                lines.add(line);
            }
        }
        return lines;
    }

    private static Set<String> face() {
        Set<String> names = new TreeSet<>();
        for (Method one : HookColours.class.getMethods()) {
            if (one.getDeclaringClass() == HookColours.class) {
                names.add(one.getName());
            }
        }
        return names;
    }

    private static void goThrough(String line, HookColours kitchen, Set<String> called) {
        Matcher told = CALL.matcher(line);
        if (!told.matches()) {
            Due.tell("README.md: this is no call with an answer behind it: " + line);
            return;
        }
        called.add(told.group(1));
        String answer = answered(kitchen, told.group(1), told.group(2));
        if (!answer.equals(told.group(3))) {
            Due.tell("README.md: " + line + " -- it answered " + answer);
        }
    }

    /** What the call answers, or the simple name of the exception that it throws. */
    private static String answered(HookColours kitchen, String name, String numbers) {
        String[] texts = numbers.isEmpty() ? new String[0] : numbers.split(", ");
        try {
            Method method = named(name);
            if (method == null || method.getParameterCount() != texts.length) {
                return "nothing, there is no such call";
            }
            return String.valueOf(method.invoke(kitchen, values(method, texts)));
        } catch (InvocationTargetException thrown) {
            return thrown.getCause().getClass().getSimpleName();
        } catch (IllegalAccessException hidden) {
            return "nothing, the call is hidden";
        }
    }

    /** No two calls of the face have the same name. */
    private static Method named(String name) {
        for (Method one : HookColours.class.getMethods()) {
            if (one.getDeclaringClass() == HookColours.class && one.getName().equals(name)) {
                return one;
            }
        }
        return null;
    }

    private static Object[] values(Method method, String[] texts) {
        Object[] values = new Object[texts.length];
        for (int at = 0; at < texts.length; at++) {
            if (method.getParameterTypes()[at] == boolean.class) {
                values[at] = texts[at].equals("true");
            } else {
                values[at] = Integer.parseInt(texts[at]);
            }
        }
        return values;
    }
}
