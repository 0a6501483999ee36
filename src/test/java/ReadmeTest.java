import java.io.IOException;
import java.lang.reflect.Method;
import java.lang.reflect.Modifier;
import java.nio.file.DirectoryStream;
import java.nio.file.Files;
import java.nio.file.Path;
import java.util.HashMap;
import java.util.Map;
import java.util.regex.Matcher;
import java.util.regex.Pattern;

/** README.md's example answers as it says, and README.md names each method and each test. */
final class ReadmeTest {
    private static final Pattern EXAMPLE = Pattern.compile("```java\n(.*?)```", Pattern.DOTALL);
    private static final Pattern LINE = Pattern.compile(
        "(?:int (\\w+) = )?routes\\.(\\w+)\\(([^)]*)\\); +// (-?\\d+|true|false)\\b.*");
    private static final String FIRST_LINE = "WishRoutes routes = new WishRoutes();";

    private final WishRoutes routes = new WishRoutes();
    private final Map<String, Integer> variables = new HashMap<>();

    private ReadmeTest() {
    }

    public static void main(String[] args) throws IOException, ReflectiveOperationException {
        String readme = Files.readString(Path.of("README.md"));
        Matcher example = EXAMPLE.matcher(readme);
        Check.due("README.md has an example", example.find(), true);
        new ReadmeTest().run(example.group(1).split("\n"));
        namesEachMethod(readme);
        namesEachTest(readme);
        Check.end();
    }

    private void run(String[] lines) throws ReflectiveOperationException {
        Check.due("the example's first line", lines[0], FIRST_LINE);
        for (int i = 1; i < lines.length; i++) {
            if (!lines[i].isEmpty()) {
                runLine(lines[i]);
            }
        }
    }

    private void runLine(String line) throws ReflectiveOperationException {
        Matcher parts = LINE.matcher(line);
        if (!parts.matches()) {
            Check.fail("no call with its answer: " + line);
            return;
        }
        String[] written = parts.group(3).isEmpty() ? new String[0] : parts.group(3).split(", ");
        Object[] arguments = new Object[written.length];
        for (int i = 0; i < written.length; i++) {
            arguments[i] = variables.containsKey(written[i]) ? variables.get(written[i]) : Integer.valueOf(written[i]);
        }
        Object answer = method(parts.group(2)).invoke(routes, arguments);
        Check.due(line, answer.toString(), parts.group(4));
        if (parts.group(1) != null) {
            variables.put(parts.group(1), (Integer) answer);
        }
    }

    private static Method method(String name) throws NoSuchMethodException {
        for (Method method : WishRoutes.class.getDeclaredMethods()) {
            if (Modifier.isPublic(method.getModifiers()) && method.getName().equals(name)) {
                return method;
            }
        }
        throw new NoSuchMethodException(name);
    }

    /** Each has a row of its own that starts with the call and names as many arguments as it takes. */
    private static void namesEachMethod(String readme) {
        for (Method method : WishRoutes.class.getDeclaredMethods()) {
            if (Modifier.isPublic(method.getModifiers())) {
                int taken = method.getParameterCount();
                String arguments = taken == 0 ? "" : "\\w+(, \\w+){" + (taken - 1) + "}";
                Pattern row = Pattern.compile("^\\| `" + method.getName() + "\\(" + arguments + "\\)` \\|",
                    Pattern.MULTILINE);
                Check.due("README.md has a row for " + method.getName(), row.matcher(readme).results().count(), 1);
            }
        }
    }

    private static void namesEachTest(String readme) throws IOException {
        try (DirectoryStream<Path> tests = Files.newDirectoryStream(Path.of("src/test/java"), "*Test.java")) {
            for (Path test : tests) {
                String name = test.getFileName().toString().replace(".java", "");
                Check.due("README.md has a row for " + name, readme.contains("\n| `" + name + "` |"), true);
            }
        }
    }
}
