import java.lang.reflect.Method;
import java.lang.reflect.Modifier;
import java.nio.file.Files;
import java.nio.file.Path;
import java.util.List;
import java.util.regex.Matcher;
import java.util.regex.Pattern;

/** README.md: its rows of calls answer what stands behind them, and its tables tell the whole face. */
public final class ReadmeTest {
    private static final Pattern MADE = Pattern.compile("FirstSeen town = new FirstSeen\\(\\);");
    private static final Pattern CALL =
            Pattern.compile("town\\.(\\w+)\\(([-0-9, ]*)\\); +// (-?\\d+): .+");
    private static final Pattern EACH =
            Pattern.compile("for \\(char c : \"([^\"]*)\"\\.toCharArray\\(\\)\\) \\{");
    private static final Pattern FED = Pattern.compile(" +town\\.feed\\(c\\);");
    private static final Pattern TOLD = Pattern.compile("\\| `(\\w+)\\(([a-z, ]*)\\)` \\| .+ \\|.*\\|");

    private static FirstSeen town = null;
    private static String letters = "";

    public static void main(String[] args) throws Exception {
        List<String> lines = Files.readAllLines(Path.of("README.md"));
        int calls = examples(lines);
        Due.holds("README.md shows how objects are called", calls > 20);
        face(lines);
        constants(lines);
        Due.end("ReadmeTest");
    }

    private static int examples(List<String> lines) throws Exception {
        int calls = 0;
        boolean inside = false;
        for (String line : lines) {
            if (line.startsWith("```")) {
                inside = line.equals("```java");
            } else if (inside) {
                calls += run(line) ? 1 : 0;
            }
        }
        return calls;
    }

    /** Whether the line is a call whose answer is told. */
    private static boolean run(String line) throws Exception {
        Matcher call = CALL.matcher(line);
        Matcher each = EACH.matcher(line);
        if (call.matches()) {
            Due.is("README.md: " + line, answer(call.group(1), call.group(2)), Long.parseLong(call.group(3)));
            return true;
        }
        if (each.matches()) {
            letters = each.group(1);
        } else if (FED.matcher(line).matches()) {
            for (char c : letters.toCharArray()) {
                town.feed(c);
            }
        } else if (MADE.matcher(line).matches()) {
            town = new FirstSeen();
        } else {
            Due.holds("README.md: " + line + " can be run", line.equals("}"));
        }
        return false;
    }

    private static long answer(String name, String numbers) throws Exception {
        String[] parts = numbers.isEmpty() ? new String[0] : numbers.split(", ");
        Object[] given = new Object[parts.length];
        for (int i = 0; i < parts.length; i++) {
            given[i] = Integer.valueOf(parts[i]);
        }
        return ((Number) method(name).invoke(town, given)).longValue();
    }

    private static Method method(String name) {
        for (Method m : FirstSeen.class.getDeclaredMethods()) {
            if (Modifier.isPublic(m.getModifiers()) && m.getName().equals(name)) {
                return m;
            }
        }
        throw new IllegalStateException("README.md calls " + name + ", which there is not");
    }

    private static void face(List<String> lines) {
        int told = 0;
        for (String line : lines) {
            Matcher row = TOLD.matcher(line);
            if (row.matches()) {
                told++;
                int takes = row.group(2).isEmpty() ? 0 : row.group(2).split(", ").length;
                Due.is("numbers that README.md gives " + row.group(1), takes,
                        method(row.group(1)).getParameterCount());
            }
        }
        int open = 0;
        for (Method m : FirstSeen.class.getDeclaredMethods()) {
            if (Modifier.isPublic(m.getModifiers())) {
                open++;
                Due.is("rows of README.md that tell " + m.getName(), rows(lines, "| `" + m.getName() + "("), 1);
            }
        }
        Due.is("calls that README.md tells", told, open);
    }

    private static void constants(List<String> lines) {
        Due.is("BAD", rows(lines, "| `BAD` " + FirstSeen.BAD + " |"), 1);
        Due.is("STATE", rows(lines, "| `STATE` " + FirstSeen.STATE + " |"), 1);
        Due.is("FULL", rows(lines, "| `FULL` " + FirstSeen.FULL + " |"), 1);
        Due.is("NO", rows(lines, "| `NO` " + FirstSeen.NO + " |"), 1);
        Due.is("NONE", rows(lines, "`NONE` (" + FirstSeen.NONE + ") is no refusal"), 1);
        for (int refusal = -14; refusal <= -11; refusal++) {
            Due.is("" + refusal, rows(lines, "| " + refusal + " |"), 1);
        }
        Due.is("-100000", rows(lines, "| -100000 |"), 1);
    }

    private static int rows(List<String> lines, String start) {
        int many = 0;
        for (String line : lines) {
            many += line.startsWith(start) ? 1 : 0;
        }
        return many;
    }
}
