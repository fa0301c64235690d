import java.io.IOException;
import java.lang.reflect.InvocationTargetException;
import java.lang.reflect.Method;
import java.lang.reflect.Modifier;
import java.nio.file.Files;
import java.nio.file.Path;
import java.util.regex.Matcher;
import java.util.regex.Pattern;

/** README.md tells of every call, and its example answers what stands beside each call. */
public final class ReadmeTest {
    private static final Pattern CALL = Pattern.compile("ways\\.(\\w+)\\(([^)]*)\\);\\s*// (-?\\w+).*");

    private final Check check = new Check();
    private final BlockWays ways = new BlockWays();

    public static void main(String[] args) throws IOException, IllegalAccessException {
        ReadmeTest test = new ReadmeTest();
        String text = Files.readString(Path.of("README.md"));
        test.check.at("README.md");
        test.everyCallIsToldOf(text);
        test.exampleAnswers(text);
        test.check.end();
    }

    private void everyCallIsToldOf(String text) {
        for (Method method : BlockWays.class.getDeclaredMethods()) {
            if (Modifier.isPublic(method.getModifiers())) {
                check.due("a row on " + method.getName(), text.contains("| `" + method.getName() + "("), true);
                check.due("an example of " + method.getName(), text.contains("ways." + method.getName() + "("), true);
            }
        }
        check.due("how the tests are run", text.contains(".ci/run"), true);
    }

    private void exampleAnswers(String text) throws IllegalAccessException {
        int lines = 0;
        int calls = 0;
        for (String line : text.split("\n")) {
            lines += line.startsWith("ways.") ? 1 : 0;
            Matcher call = CALL.matcher(line);
            if (call.matches()) {
                calls++;
                String got = answer(call.group(1), call.group(2).split(", "));
                check.due(line + " answered " + got + "; that it is as told", got.equals(call.group(3)), true);
            }
        }
        check.due("lines of the example that were understood", calls, lines);
        check.due("there is an example", calls > 0, true);
    }

    private String answer(String name, String[] written) throws IllegalAccessException {
        for (Method method : BlockWays.class.getDeclaredMethods()) {
            if (method.getName().equals(name)) {
                try {
                    return String.valueOf(method.invoke(ways, arguments(method, written)));
                } catch (InvocationTargetException e) {
                    return e.getCause().getClass().getSimpleName();
                }
            }
        }
        return "no such call";
    }

    private static Object[] arguments(Method method, String[] written) {
        Object[] arguments = new Object[written.length];
        for (int i = 0; i < written.length; i++) {
            boolean isLong = method.getParameterTypes()[i] == long.class;
            long value = Long.parseLong(written[i].replace("L", ""));
            arguments[i] = isLong ? (Object) value : (Object) (int) value;
        }
        return arguments;
    }
}
