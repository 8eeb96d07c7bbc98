import java.io.IOException;
import java.lang.reflect.Method;
import java.nio.file.Files;
import java.nio.file.Path;
import java.util.regex.Matcher;
import java.util.regex.Pattern;

/** The calls that README.md shows, one after the other on one object, have to answer what it tells of them. */
final class ReadmeTest {
    private static final Pattern CALL = Pattern.compile("    x\\.(\\w+)\\((.*)\\); *// (-?\\d+)(:.*)?");

    public static void main(String[] args) throws IOException, ReflectiveOperationException {
        ChargeEstimator x = new ChargeEstimator();
        int calls = 0;
        for (String line : Files.readAllLines(Path.of("README.md"))) {
            Matcher call = CALL.matcher(line);
            if (call.matches()) {
                calls++;
                Check.due(line.trim(), answer(x, call.group(1), call.group(2)), Long.parseLong(call.group(3)));
            } else {
                Check.dueThat("\"" + line + "\" is a call that is understood", !line.startsWith("    x."));
            }
        }
        Check.dueThat("the calls are found, " + calls, calls >= 10);
        Check.end();
    }

    private static long answer(ChargeEstimator x, String name, String arguments) throws ReflectiveOperationException {
        String[] parts = arguments.isEmpty() ? new String[0] : arguments.split(", ");
        Object[] values = new Object[parts.length];
        for (int i = 0; i < parts.length; i++) {
            values[i] = parts[i].startsWith("'") ? (int) parts[i].charAt(1) : Integer.parseInt(parts[i]);
        }
        for (Method m : ChargeEstimator.class.getMethods()) {
            if (m.getName().equals(name) && m.getParameterCount() == values.length) {
                return ((Number) m.invoke(x, values)).longValue();
            }
        }
        throw new NoSuchMethodException(name);
    }
}
