import java.lang.reflect.InvocationTargetException;
import java.lang.reflect.Method;
import java.lang.reflect.Modifier;
import java.nio.file.Files;
import java.nio.file.Path;
import java.util.regex.Matcher;
import java.util.regex.Pattern;

/** The example of README.md answers as it says there, and its table names every call. */
public final class ReadmeTest {
    private static final Pattern CALL = Pattern.compile("x\\.(\\w+)\\(([^)]*)\\); +// (\\S+)");
    private static final Pattern TELL = Pattern.compile("tell\\(x, \"([^\"]*)\"\\);");
    private static final Check CHECK = new Check("ReadmeTest");

    private ReadmeTest() { }

    public static void main(String[] args) throws Exception {
        String text = Files.readString(Path.of("README.md"));
        example(text);
        table(text);
        CHECK.end();
    }

    private static void example(String text) throws Exception {
        ShakingCourt court = new ShakingCourt();
        int calls = 0;
        for (String line : text.lines().toList()) {
            Matcher tell = TELL.matcher(line);
            Matcher call = CALL.matcher(line);
            if (tell.matches()) {
                Check.write(court, tell.group(1));
            } else if (call.matches()) {
                calls++;
                String got = answer(court, call.group(1), call.group(2));
                CHECK.due(line + " answers " + got, got.equals(call.group(3)), true);
            }
        }
        CHECK.due("calls were found", calls > 20, true);
    }

    private static String answer(ShakingCourt court, String name, String written) throws IllegalAccessException {
        String[] words = written.isEmpty() ? new String[0] : written.split(", ");
        Method method = find(name);
        Object[] arguments = new Object[words.length];
        for (int i = 0; i < words.length; i++) {
            boolean isBoolean = method.getParameterTypes()[i] == boolean.class;
            arguments[i] = isBoolean ? (Object) Boolean.valueOf(words[i]) : (Object) Integer.valueOf(words[i]);
        }
        try {
            return String.valueOf(method.invoke(court, arguments));
        } catch (InvocationTargetException e) {
            return e.getCause().getClass().getSimpleName();
        }
    }

    private static Method find(String name) {
        for (Method m : ShakingCourt.class.getMethods()) {
            if (m.getName().equals(name)) {
                return m;
            }
        }
        throw new IllegalArgumentException(name);
    }

    private static void table(String text) {
        for (Method m : ShakingCourt.class.getDeclaredMethods()) {
            if (Modifier.isPublic(m.getModifiers())) {
                CHECK.due("named in the table: " + m.getName(), text.contains("`" + m.getName() + "`"), true);
            }
        }
    }
}
