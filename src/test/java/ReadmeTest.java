import java.io.IOException;
import java.lang.reflect.Method;
import java.lang.reflect.Modifier;
import java.nio.file.Files;
import java.nio.file.Path;
import java.util.ArrayList;
import java.util.List;
import java.util.TreeSet;
import java.util.regex.Matcher;
import java.util.regex.Pattern;

/** The calls that README.md tells, made in their order, answer what stands behind them. */
public final class ReadmeTest {
    private static final Pattern NEW = Pattern.compile("DumplingBand band = new DumplingBand\\(\\);");
    private static final Pattern TEXT =
        Pattern.compile("for \\(char letter : \"(\\w+)\"\\.toCharArray\\(\\)\\) \\{ band\\.write\\(letter\\); \\}");
    private static final Pattern CALL = Pattern.compile("band\\.(\\w+)\\(([^)]*)\\); +// (-?\\d+|[A-Z]+)(: .+)?");

    private final Checks checks = new Checks();
    private final TreeSet<String> calls = new TreeSet<>();
    private final TreeSet<String> refusals = new TreeSet<>();
    private DumplingBand band;

    public static void main(String[] args) throws IOException, ReflectiveOperationException {
        new ReadmeTest().run();
    }

    private void run() throws IOException, ReflectiveOperationException {
        for (String line : javaLines()) {
            checks.about("README.md, " + line);
            make(line);
        }
        checks.about("README.md");
        for (Method method : DumplingBand.class.getDeclaredMethods()) {
            if (Modifier.isPublic(method.getModifiers())) {
                checks.due(method.getName() + " is told", calls.contains(method.getName()) ? 1 : 0, 1);
            }
        }
        for (String refusal : List.of("UNKNOWN", "BAD", "LATE", "FULL", "NONE")) {
            checks.due(refusal + " is told", refusals.contains(refusal) ? 1 : 0, 1);
        }
        checks.end();
    }

    /** The lines between ```java and ```. */
    private static List<String> javaLines() throws IOException {
        List<String> lines = new ArrayList<>();
        boolean isJava = false;
        for (String line : Files.readAllLines(Path.of("README.md"))) {
            if (line.startsWith("```")) {
                isJava = line.equals("```java");
            } else if (isJava && !line.isBlank()) {
                lines.add(line);
            }
        }
        return lines;
    }

    /** A line in none of the three forms would go by unseen, so it is a fault. */
    private void make(String line) throws ReflectiveOperationException {
        Matcher text = TEXT.matcher(line);
        Matcher call = CALL.matcher(line);
        if (NEW.matcher(line).matches()) {
            band = new DumplingBand();
        } else if (text.matches() && band != null) {
            for (char letter : text.group(1).toCharArray()) {
                checks.due("a byte comes behind it", band.write(letter) > 0 ? 1 : 0, 1);
            }
        } else if (call.matches() && band != null) {
            answer(call.group(1), call.group(2), call.group(3));
        } else {
            checks.due("a line that can be read", 0, 1);
        }
    }

    private void answer(String name, String arguments, String due) throws ReflectiveOperationException {
        Object[] values = valuesOf(arguments);
        Method method = methodOf(name, values.length);
        if (method == null) {
            checks.due("a call of the class", 0, 1);
            return;
        }
        for (int at = 0; at < values.length; at++) {
            if (method.getParameterTypes()[at] == long.class) {
                values[at] = Long.valueOf((Integer) values[at]);
            }
        }
        calls.add(name);
        long got = ((Number) method.invoke(band, values)).longValue();
        checks.due(name, got, numberOf(due));
    }

    private static Method methodOf(String name, int parameters) {
        for (Method method : DumplingBand.class.getDeclaredMethods()) {
            boolean isPublic = Modifier.isPublic(method.getModifiers());
            if (isPublic && method.getName().equals(name) && method.getParameterCount() == parameters) {
                return method;
            }
        }
        return null;
    }

    private static Object[] valuesOf(String arguments) {
        if (arguments.isEmpty()) {
            return new Object[0];
        }
        String[] told = arguments.split(", ");
        Object[] values = new Object[told.length];
        for (int at = 0; at < told.length; at++) {
            values[at] = valueOf(told[at]);
        }
        return values;
    }

    private static Object valueOf(String told) {
        if (told.equals("true") || told.equals("false")) {
            return Boolean.valueOf(told);
        }
        return told.startsWith("'") ? Integer.valueOf(told.charAt(1)) : Integer.valueOf(told);
    }

    private long numberOf(String due) throws ReflectiveOperationException {
        if (!Character.isLetter(due.charAt(0))) {
            return Long.parseLong(due);
        }
        refusals.add(due);
        return DumplingBand.class.getField(due).getInt(null);
    }
}
