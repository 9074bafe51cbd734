import java.io.IOException;
import java.lang.reflect.Field;
import java.lang.reflect.Method;
import java.lang.reflect.Modifier;
import java.nio.file.Files;
import java.nio.file.Path;
import java.util.regex.Matcher;
import java.util.regex.Pattern;

/** README.md says how to use the class: its example must answer what it says, and nothing of the face be left out. */
public final class ReadmeTest {
    private static final Path README = Path.of("README.md");
    private static final Pattern EXAMPLE = Pattern.compile("(?s)```java\n(.*?)```");
    private static final Pattern CALL =
            Pattern.compile("x\\.(\\w+\\([^)]*\\)); +// (-?\\d+|HistogramStairs\\.\\w+)(:.*)?");

    public static void main(String[] args) throws IOException {
        Check check = new Check("ReadmeTest");
        String readme = Files.readString(README);
        checkExample(check, readme);
        checkTables(check, readme);
        check.end();
    }

    private static void checkExample(Check check, String readme) {
        Matcher example = EXAMPLE.matcher(readme);
        check.yes("there is an example", example.find());
        String[] lines = example.group(1).split("\n");
        check.same("the example's first line", lines[0], "HistogramStairs x = new HistogramStairs();");
        HistogramStairs x = new HistogramStairs();
        for (int i = 1; i < lines.length; i++) {
            Matcher call = CALL.matcher(lines[i]);
            if (call.matches()) {
                check.due(call.group(1), Calls.on(x, call.group(1)), numberOf(call.group(2)));
            } else {
                check.yes("a call with its answer: " + lines[i], false);
            }
        }
    }

    private static int numberOf(String answer) {
        switch (answer) {
            case "HistogramStairs.BAD": return HistogramStairs.BAD;
            case "HistogramStairs.STATE": return HistogramStairs.STATE;
            case "HistogramStairs.FULL": return HistogramStairs.FULL;
            case "HistogramStairs.NONE": return HistogramStairs.NONE;
            default: return Integer.parseInt(answer);
        }
    }

    private static void checkTables(Check check, String readme) {
        for (Method method : HistogramStairs.class.getDeclaredMethods()) {
            if (Modifier.isPublic(method.getModifiers())) {
                int parameters = method.getParameterCount();
                String names = parameters == 0 ? "" : "\\w+" + ", \\w+".repeat(parameters - 1);
                Pattern row = Pattern.compile("(?m)^\\| `" + method.getName() + "\\(" + names + "\\)` \\|");
                check.due("rows for " + method.getName(), row.matcher(readme).results().count(), 1);
            }
        }
        for (Field field : HistogramStairs.class.getDeclaredFields()) {
            if (Modifier.isPublic(field.getModifiers())) {
                String row = "\n| `" + field.getName() + "` (" + valueOf(field) + ") |";
                check.yes("a row for " + field.getName() + " with its value", readme.contains(row));
            }
        }
    }

    private static int valueOf(Field field) {
        try {
            return field.getInt(null);
        } catch (IllegalAccessException refused) {
            throw new IllegalStateException(refused);
        }
    }

    private ReadmeTest() {
    }
}
