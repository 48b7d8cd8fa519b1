import java.io.IOException;
import java.lang.reflect.Method;
import java.lang.reflect.Modifier;
import java.nio.file.Files;
import java.nio.file.Path;
import java.util.List;
import java.util.regex.Matcher;
import java.util.regex.Pattern;

/** README.md tells of every call, and the calls in its example answer what stands behind them. */
public final class ReadmeTest extends Due {
    /** A call of x, its argument, and the answer that is told behind it. */
    private static final Pattern CALL = Pattern.compile("x\\.(\\w+)\\((.*)\\);\\s*// ([^:]+)(:.*)?");
    /** A character in its place, or a number. */
    private static final Pattern TERM = Pattern.compile("'(.)'(?: << (\\d+))?|(\\d+)");
    private static final int FEWEST_CALLS = 20;

    public static void main(String[] args) throws IOException {
        List<String> lines = Files.readAllLines(Path.of("README.md"));
        sentence("README.md", "the example", () -> testExample(lines));
        sentence("README.md", "every call is told of", () -> testCalls(String.join("\n", lines)));
        sentence("README.md", "every test is told of, and no other", () -> testTests(String.join("\n", lines)));
        end();
    }

    private static void testExample(List<String> lines) {
        TwoWayTexts x = new TwoWayTexts();
        int calls = 0;
        for (String line : lines) {
            Matcher call = CALL.matcher(line);
            if (call.matches()) {
                calls++;
                due(line, answer(x, call.group(1), call.group(2)), call.group(3).strip());
            } else {
                due(line + " being no call whose answer is told", line.startsWith("x."), false);
            }
        }
        due("having " + FEWEST_CALLS + " calls or more", calls >= FEWEST_CALLS, true);
    }

    private static String answer(TwoWayTexts x, String name, String argument) {
        try {
            return String.valueOf(argument.isEmpty()
                ? TwoWayTexts.class.getMethod(name).invoke(x)
                : TwoWayTexts.class.getMethod(name, int.class).invoke(x, valueOf(argument)));
        } catch (ReflectiveOperationException e) {
            return e.toString();
        }
    }

    private static int valueOf(String argument) {
        int value = 0;
        Matcher term = TERM.matcher(argument);
        while (term.find()) {
            if (term.group(3) != null) {
                return Integer.parseInt(term.group(3));
            }
            value |= term.group(1).charAt(0) << (term.group(2) == null ? 0 : Integer.parseInt(term.group(2)));
        }
        return value;
    }

    private static void testCalls(String readme) {
        for (Method method : TwoWayTexts.class.getDeclaredMethods()) {
            if (Modifier.isPublic(method.getModifiers())) {
                due("telling of " + method.getName(), readme.contains("`" + method.getName() + "("), true);
            }
        }
        due("telling how the tests are run", readme.contains("`.ci/run`"), true);
    }

    private static void testTests(String readme) {
        String[] files = Path.of("src/test/java").toFile().list();
        for (String file : files == null ? new String[0] : files) {
            String name = file.replace(".java", "");
            due("telling of " + name, readme.contains("`" + name + "`"), true);
        }
        Matcher told = Pattern.compile("- `(\\w+Test)`").matcher(readme);
        while (told.find()) {
            due(told.group(1) + " being there", Files.exists(Path.of("src/test/java/" + told.group(1) + ".java")), true);
        }
    }
}
