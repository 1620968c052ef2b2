import java.io.IOException;
import java.lang.reflect.Field;
import java.lang.reflect.Method;
import java.lang.reflect.Modifier;
import java.nio.file.Files;
import java.nio.file.Path;
import java.util.List;
import java.util.regex.Matcher;
import java.util.regex.Pattern;

/** README.md says what holds: its example answers as it tells, and it names every call and every constant. */
public final class ReadmeTest {
    private static final Due DUE = new Due("ReadmeTest");
    private static final Pattern STEP = Pattern.compile("disk\\.(\\w+)\\(([-\\d, ]*)\\); +// (-?\\d+): .*");
    private static final Pattern ROW = Pattern.compile("\\| `(\\w+)\\(([\\w, ]*)\\)` \\|.*\\|");

    public static void main(String[] args) throws IOException, IllegalAccessException {
        List<String> lines = Files.readAllLines(Path.of("README.md"));
        example(lines);
        calls(lines);
        constants(String.join("\n", lines));
        commands(lines);
        DUE.end();
    }

    private static void example(List<String> lines) {
        QuietChecks disk = new QuietChecks();
        int steps = 0;
        for (String line : lines) {
            Matcher step = STEP.matcher(line);
            if (step.matches()) {
                DUE.same(line, Calls.answer(disk, call(step.group(1), step.group(2))), Long.parseLong(step.group(3)));
                steps++;
            } else {
                DUE.holds("a step of the example tells its answer: " + line, !line.startsWith("disk."));
            }
        }
        DUE.holds("the example has steps", steps > 5);
    }

    private static int[] call(String name, String arguments) {
        int[] call = {List.of(Calls.NAMES).indexOf(name), 0, 0};
        DUE.holds(name + " is a call", call[0] >= 0);
        int at = 1;
        for (String argument : arguments.split(", ")) {
            if (!argument.isEmpty()) {
                call[at] = Integer.parseInt(argument);
                at++;
            }
        }
        return call;
    }

    /** The tables have one row for each public method, with as many arguments as it takes. */
    private static void calls(List<String> lines) {
        int rows = 0;
        for (String line : lines) {
            Matcher row = ROW.matcher(line);
            if (row.matches()) {
                int arguments = row.group(2).isEmpty() ? 0 : row.group(2).split(", ").length;
                DUE.same("methods as in " + line, methods(row.group(1), arguments), 1);
                rows++;
            }
        }
        DUE.same("rows for calls", rows, Calls.NAMES.length);
        for (String name : Calls.NAMES) {
            DUE.same("rows for " + name, lines.stream().filter(line -> line.startsWith("| `" + name + "(")).count(), 1);
        }
    }

    private static long methods(String name, int arguments) {
        long found = 0;
        for (Method method : QuietChecks.class.getDeclaredMethods()) {
            if (Modifier.isPublic(method.getModifiers()) && method.getName().equals(name)
                    && method.getParameterCount() == arguments) {
                found++;
            }
        }
        return found;
    }

    private static void constants(String text) throws IllegalAccessException {
        for (Field field : QuietChecks.class.getFields()) {
            String row = "| `" + field.getName() + "` | " + field.getInt(null) + " |";
            DUE.holds("README.md has the row " + row, text.contains(row));
        }
    }

    /** The tests that README.md names are there. */
    private static void commands(List<String> lines) {
        Matcher test = Pattern.compile("\\b([A-Z]\\w*Test)\\b").matcher(String.join("\n", lines));
        int named = 0;
        while (test.find()) {
            Path file = Path.of("src", "test", "java", test.group(1) + ".java");
            DUE.holds("there is a test " + test.group(1), Files.exists(file));
            named++;
        }
        DUE.holds("README.md names tests", named > 5);
    }
}
