import java.io.IOException;
import java.lang.reflect.InvocationTargetException;
import java.lang.reflect.Method;
import java.nio.file.Files;
import java.nio.file.Path;
import java.util.regex.Matcher;
import java.util.regex.Pattern;

/** Makes the calls that README.md shows, in their order, and holds the answers against what it says behind them. */
public final class ReadmeTests {
    private static final Pattern CALL = Pattern.compile("line\\.(\\w+)\\((.*)\\);\\s*// ([^\\s:]+).*");
    private static final int FEWEST_CALLS = 30;

    private static final Check CHECK = new Check("ReadmeTests");

    public static void main(String[] args) throws IOException {
        Spotbeat line = new Spotbeat();
        int calls = 0;
        for (String row : Files.readAllLines(Path.of("README.md"))) {
            if (!row.startsWith("line.")) {
                continue;
            }
            Matcher call = CALL.matcher(row);
            CHECK.same("a call with its answer: " + row, true, call.matches());
            if (call.matches()) {
                CHECK.same(row, call.group(3), answer(line, call.group(1), call.group(2)));
                calls++;
            }
        }
        CHECK.same("calls enough", true, calls >= FEWEST_CALLS);
        CHECK.same("sound at the end", true, line.isSound());
        CHECK.close();
    }

    private static String answer(Spotbeat line, String name, String told) {
        String[] arguments = told.isEmpty() ? new String[0] : told.split(", ");
        for (Method method : Spotbeat.class.getMethods()) {
            if (method.getName().equals(name) && method.getParameterCount() == arguments.length) {
                return answer(line, method, arguments);
            }
        }
        return "no such call";
    }

    private static String answer(Spotbeat line, Method method, String[] arguments) {
        Object[] values = new Object[arguments.length];
        for (int at = 0; at < values.length; at++) {
            values[at] = value(arguments[at]);
        }
        try {
            return String.valueOf(method.invoke(line, values));
        } catch (InvocationTargetException e) {
            return e.getCause().getClass().getSimpleName();
        } catch (IllegalAccessException e) {
            return "a hidden call";
        }
    }

    private static Object value(String argument) {
        if (argument.equals("true") || argument.equals("false")) {
            return Boolean.valueOf(argument);
        }
        if (argument.startsWith("'")) {
            return argument.charAt(1);
        }
        return Integer.valueOf(argument);
    }
}
