import java.io.IOException;
import java.lang.reflect.Method;
import java.lang.reflect.Modifier;
import java.nio.file.Files;
import java.nio.file.Path;
import java.util.HashMap;
import java.util.List;
import java.util.Map;
import java.util.regex.Matcher;
import java.util.regex.Pattern;
import java.util.stream.Stream;

/** README.md says what is so: its run of calls answers as it says, and it names every call and every test. */
public final class ReadmeTests {
    private static final Pattern RUN = Pattern.compile("(?s)```java\n(.*?)```");
    private static final Pattern CALL =
        Pattern.compile("(?:int (\\w+) = )?x\\.(\\w+)\\(([^)]*)\\); +// (-?\\d+)(?::.*)?");
    private static final String FIRST = "VersionChunks x = new VersionChunks();";

    private static int wrong = 0;

    private static void must(boolean holds, String what) {
        if (!holds) {
            wrong++;
            System.out.println("README.md: " + what);
        }
    }

    private static Method publicMethod(String name) {
        for (Method method : VersionChunks.class.getDeclaredMethods()) {
            if (Modifier.isPublic(method.getModifiers()) && method.getName().equals(name)) {
                return method;
            }
        }
        return null;
    }

    private static Object argument(String text, Class<?> type, Map<String, Long> variables) {
        long number = variables.containsKey(text) ? variables.get(text) : Long.parseLong(text);
        if (type == long.class) {
            return number;
        }
        return (int) number;
    }

    private static long answer(VersionChunks x, Method method, String arguments, Map<String, Long> variables)
            throws ReflectiveOperationException {
        String[] texts = arguments.split(", ");
        Object[] values = new Object[texts.length];
        for (int i = 0; i < texts.length; i++) {
            values[i] = argument(texts[i], method.getParameterTypes()[i], variables);
        }
        return ((Number) method.invoke(x, values)).longValue();
    }

    private static void checkRun(String page) throws ReflectiveOperationException {
        Matcher run = RUN.matcher(page);
        must(run.find(), "there is no run of calls");
        List<String> lines = run.group(1).lines().filter(line -> !line.isBlank()).toList();
        must(lines.get(0).equals(FIRST), "the run does not begin with a new object");
        VersionChunks x = new VersionChunks();
        Map<String, Long> variables = new HashMap<>();
        for (String line : lines.subList(1, lines.size())) {
            Matcher call = CALL.matcher(line);
            Method method = call.matches() ? publicMethod(call.group(2)) : null;
            if (method == null) {
                must(false, "no call with its answer: " + line);
                continue;
            }
            long got = answer(x, method, call.group(3), variables);
            must(got == Long.parseLong(call.group(4)), "answered " + got + ": " + line);
            if (call.group(1) != null) {
                variables.put(call.group(1), got);
            }
        }
    }

    private static void checkNames(String page) throws IOException {
        String table = page.substring(page.indexOf("### The calls"));
        for (Method method : VersionChunks.class.getDeclaredMethods()) {
            if (Modifier.isPublic(method.getModifiers())) {
                String name = method.getName();
                Matcher call = Pattern.compile("`" + name + "\\(([^)]*)\\)`").matcher(table);
                int parameters = call.find() ? call.group(1).split(", ").length : -1;
                must(parameters == method.getParameterCount(), "the table does not have " + name + " as it is");
            }
        }
        try (Stream<Path> tests = Files.list(Path.of("src/test/java"))) {
            for (Path test : tests.toList()) {
                String name = test.getFileName().toString().replace(".java", "");
                must(page.contains("\n- `" + name + "`:"), "the test " + name + " is not told");
            }
        }
        must(page.contains("\n    .ci/run\n"), "how to run the tests is not told");
    }

    public static void main(String[] args) throws IOException, ReflectiveOperationException {
        String page = Files.readString(Path.of("README.md"));
        checkRun(page);
        checkNames(page);
        System.out.println(wrong == 0 ? "README.md says what is so" : wrong + " faults in README.md");
        if (wrong != 0) {
            System.exit(1);
        }
    }
}
