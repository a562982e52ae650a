import java.lang.reflect.Method;
import java.lang.reflect.Modifier;
import java.nio.file.Files;
import java.nio.file.Path;
import java.util.List;
import java.util.regex.Matcher;
import java.util.regex.Pattern;

/** README.md: its example answers as it says, and its tables tell each call and each REFUSAL. */
public final class ReadmeTest {
    private static final Due DUE = new Due("ReadmeTest");
    private static final Pattern CALL = Pattern.compile("x\\.(\\w+)\\(([^)]*)\\);\\s+// (-?\\d+)(:.*)?");
    private static final String MADE = "PuzzleParts x = new PuzzleParts();";

    public static void main(String[] args) throws Exception {
        List<String> lines = Files.readAllLines(Path.of("README.md"));
        example(lines);
        calls(lines);
        refusals(lines);
        DUE.end();
    }

    private static void example(List<String> lines) throws Exception {
        int from = lines.indexOf("```java");
        DUE.is("an example", from >= 0 ? 1 : 0, 1);
        DUE.same("its first line", lines.get(from + 1), MADE);
        PuzzleParts x = new PuzzleParts();
        for (int i = from + 2; !lines.get(i).equals("```"); i++) {
            Matcher line = CALL.matcher(lines.get(i));
            DUE.is("an answer in: " + lines.get(i), line.matches() ? 1 : 0, 1);
            DUE.is(lines.get(i), answer(x, line.group(1), line.group(2)), Long.parseLong(line.group(3)));
        }
    }

    private static long answer(PuzzleParts x, String name, String told) throws Exception {
        Method method = named(name);
        Class<?>[] types = method.getParameterTypes();
        String[] words = told.isEmpty() ? new String[0] : told.split(", ");
        Object[] values = new Object[types.length];
        for (int i = 0; i < types.length; i++) {
            long value = Long.decode(words[i].replace("L", ""));
            if (types[i] == int.class) {
                values[i] = (int) value;
            } else {
                values[i] = value;
            }
        }
        return ((Number) method.invoke(x, values)).longValue();
    }

    private static Method named(String name) {
        for (Method method : PuzzleParts.class.getMethods()) {
            if (method.getName().equals(name)) {
                return method;
            }
        }
        throw new IllegalStateException("README.md tells a call that is not there: " + name);
    }

    /** A row of the table for each: as many words in its brackets as the method takes. */
    private static void calls(List<String> lines) {
        for (Method method : PuzzleParts.class.getDeclaredMethods()) {
            if (!Modifier.isPublic(method.getModifiers())) {
                continue;
            }
            StringBuilder row = new StringBuilder("\\| `" + method.getName() + "\\(");
            for (int i = 0; i < method.getParameterCount(); i++) {
                row.append(i == 0 ? "\\w+" : ", \\w+");
            }
            DUE.is("rows of " + method.getName(), rows(lines, row + "\\)` \\| .*"), 1);
        }
    }

    private static void refusals(List<String> lines) {
        for (String row : new String[] {"-1 \\| NOBODY", "-2 \\| OTHER", "-3 \\| STATE", "-4 \\| BELOW", "-6 \\| ROOM"}) {
            DUE.is("rows of " + row, rows(lines, "\\| " + row + ": .* \\|"), 1);
        }
    }

    private static int rows(List<String> lines, String pattern) {
        int rows = 0;
        for (String line : lines) {
            rows += line.matches(pattern) ? 1 : 0;
        }
        return rows;
    }
}
