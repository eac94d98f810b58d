import java.io.IOException;
import java.lang.reflect.InvocationTargetException;
import java.lang.reflect.Method;
import java.lang.reflect.Modifier;
import java.nio.file.Files;
import java.nio.file.Path;
import java.util.HashMap;
import java.util.Map;
import java.util.regex.Matcher;
import java.util.regex.Pattern;
import java.util.stream.Stream;

/**
 * Each example of README.md is an answer that the program gives, and each call has one. A line of an example that
 * has not one of the forms that are known here is wrong too, so that none is passed over.
 */
public final class ReadmeTest {
    private static final Check CHECK = new Check("ReadmeTest");
    private static final String NEW_OBJECT = "BasinSizes x = new BasinSizes();";
    private static final Pattern CALL = Pattern.compile("x\\.(\\w+)\\((.*)\\); *// (-?\\d+|BAD|true|false)(: .+)?");
    private static final Pattern TEXT = Pattern.compile("\"([^\"]*)\"\\.chars\\(\\)\\.forEach\\(x::unit\\);");

    private final Map<String, Method> face = new HashMap<>();
    private final Map<String, Integer> examples = new HashMap<>();
    private BasinSizes x = null;

    private ReadmeTest() {
        for (Method m : BasinSizes.class.getDeclaredMethods()) {
            if (Modifier.isPublic(m.getModifiers())) {
                face.put(m.getName(), m);
            }
        }
    }

    public static void main(String[] args) throws IOException, IllegalAccessException, InvocationTargetException {
        ReadmeTest test = new ReadmeTest();
        String readme = Files.readString(Path.of(System.getProperty("project", "."), "README.md"));
        boolean example = false;
        int number = 0;
        for (String line : readme.split("\n")) {
            number++;
            if (line.startsWith("```")) {
                example = line.equals("```java");
                test.x = null;
            } else if (example) {
                test.look("README.md, line " + number + ": " + line, line);
            }
        }
        for (String name : test.face.keySet()) {
            CHECK.due("an example of " + name, test.examples.containsKey(name), true);
            CHECK.due("a row for " + name, readme.contains("\n| `" + name + "("), true);
        }
        testsAreTold(readme);
        CHECK.finish();
    }

    private void look(String where, String line) throws IllegalAccessException, InvocationTargetException {
        Matcher text = TEXT.matcher(line);
        Matcher call = CALL.matcher(line);
        if (line.equals(NEW_OBJECT)) {
            x = new BasinSizes();
        } else if (x != null && text.matches()) {
            text.group(1).chars().forEach(x::unit);
        } else if (x != null && call.matches() && face.containsKey(call.group(1))) {
            Method m = face.get(call.group(1));
            examples.merge(m.getName(), 1, Integer::sum);
            CHECK.due(where, number(m.invoke(x, arguments(m, call.group(2)))), number(call.group(3)));
        } else {
            CHECK.due(where + " has no known form", true, false);
        }
    }

    private static Object[] arguments(Method m, String texts) {
        String[] parts = texts.isEmpty() ? new String[0] : texts.split(", ");
        Class<?>[] types = m.getParameterTypes();
        Object[] values = new Object[parts.length];
        for (int i = 0; i < parts.length; i++) {
            values[i] = argument(parts[i], i < types.length && types[i] == long.class);
        }
        return values;
    }

    /** As in Java, a number without an L behind it must fit into an int, and one with it is no int. */
    private static Object argument(String text, boolean widened) {
        if (text.endsWith("L")) {
            return Long.valueOf(text.substring(0, text.length() - 1));
        }
        int number = text.matches("'.'") ? text.charAt(1) : Integer.parseInt(text);
        if (widened) {
            return (long) number;
        }
        return number;
    }

    private static long number(Object answer) {
        if (answer instanceof Boolean) {
            return (Boolean) answer ? 1 : 0;
        }
        return ((Number) answer).longValue();
    }

    private static long number(String answer) {
        switch (answer) {
            case "BAD":
                return BasinSizes.BAD;
            case "true":
                return 1;
            case "false":
                return 0;
            default:
                return Long.parseLong(answer);
        }
    }

    /** Each test of the project has its place in the table of tests. */
    private static void testsAreTold(String readme) throws IOException {
        Path tests = Path.of(System.getProperty("project", "."), "src", "test", "java");
        try (Stream<Path> files = Files.list(tests)) {
            files.map(f -> f.getFileName().toString()).filter(f -> f.endsWith("Test.java")).forEach(f -> {
                String name = f.substring(0, f.length() - ".java".length());
                CHECK.due("the table of tests has " + name, readme.contains("`" + name + "`"), true);
            });
        }
    }
}
