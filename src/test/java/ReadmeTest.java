import java.io.IOException;
import java.lang.reflect.Method;
import java.lang.reflect.Modifier;
import java.nio.file.Files;
import java.nio.file.Path;
import java.util.ArrayList;
import java.util.List;
import java.util.regex.Matcher;
import java.util.regex.Pattern;

/** README.md tells of each call and each code, and the calls that it shows answer what it says. */
public final class ReadmeTest {
    private static final Pattern NEW_OBJECT = Pattern.compile(" {4}RenamingGrid grid = new RenamingGrid\\(\\);");
    /** A call and its answer, such as "    grid.step(0);   // 0: still running". */
    private static final Pattern SHOWN = Pattern.compile(" {4}grid\\.(\\w+)\\(([^)]*)\\); *// (-?\\d+)\\b.*");

    private final Due due = new Due("ReadmeTest");
    private final List<String> lines;

    private ReadmeTest(List<String> lines) {
        this.lines = lines;
    }

    public static void main(String[] args) throws IOException, ReflectiveOperationException {
        ReadmeTest test = new ReadmeTest(Files.readAllLines(Path.of("README.md")));
        test.tellsOfEachCall();
        test.tellsOfEachCode();
        test.callsAnswerWhatIsShown();
        test.due.end();
    }

    /** Each call has a row of its own in a table, with as many arguments as it takes. */
    private void tellsOfEachCall() {
        for (Method method : RenamingGrid.class.getDeclaredMethods()) {
            if (!Modifier.isPublic(method.getModifiers())) {
                continue;
            }
            String row = "\\| `" + method.getName() + "\\(" + parameters(method.getParameterCount()) + "\\)` \\|.*";
            due.is("rows of README.md about " + method.getName(), linesLike(row), 1);
        }
    }

    private static String parameters(int count) {
        return count == 0 ? "" : "\\w+" + ", \\w+".repeat(count - 1);
    }

    private void tellsOfEachCode() {
        due.is("rows about INVALID_ARGUMENT", linesLike("\\| `INVALID_ARGUMENT` \\(-1\\) \\|.*"), 1);
        due.is("rows about ILLEGAL_STATE", linesLike("\\| `ILLEGAL_STATE` \\(-2\\) \\|.*"), 1);
        due.is("rows about CAPACITY_EXCEEDED", linesLike("\\| `CAPACITY_EXCEEDED` \\(-3\\) \\|.*"), 1);
        due.is("rows about NONE", linesLike("\\| `NONE` \\(-9\\) \\|.*"), 1);
    }

    private long linesLike(String pattern) {
        return lines.stream().filter(line -> line.matches(pattern)).count();
    }

    private void callsAnswerWhatIsShown() throws ReflectiveOperationException {
        RenamingGrid grid = null;
        int shown = 0;
        for (String line : lines) {
            if (NEW_OBJECT.matcher(line).matches()) {
                grid = new RenamingGrid();
                continue;
            }
            Matcher call = SHOWN.matcher(line);
            if (call.matches() && grid != null) {
                shown++;
                due.is(line.strip(), answer(grid, call.group(1), call.group(2)), Integer.parseInt(call.group(3)));
            } else {
                due.holds("this line shows an answer: " + line, !line.startsWith("    grid."));
            }
        }
        due.holds("README.md shows calls", shown > 0);
    }

    private static int answer(RenamingGrid grid, String name, String arguments) throws ReflectiveOperationException {
        List<Object> values = new ArrayList<>();
        for (String argument : arguments.isEmpty() ? new String[0] : arguments.split(", *")) {
            values.add(argument.startsWith("'") ? argument.charAt(1) : Integer.parseInt(argument));
        }
        Class<?>[] types = new Class<?>[values.size()];
        for (int i = 0; i < types.length; i++) {
            types[i] = int.class;
        }
        return (Integer) RenamingGrid.class.getMethod(name, types).invoke(grid, values.toArray());
    }
}
