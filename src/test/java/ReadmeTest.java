import java.io.IOException;
import java.lang.reflect.Method;
import java.nio.charset.StandardCharsets;
import java.nio.file.Files;
import java.nio.file.Path;
import java.util.List;
import java.util.Set;
import java.util.TreeSet;
import java.util.regex.Matcher;
import java.util.regex.Pattern;

/** The example of README.md, line by line: each call answers what is written behind it, and none is left out. */
public final class ReadmeTest {
    private static final Path README = Path.of("README.md");
    private static final Pattern MADE = Pattern.compile("MonitorQueues m = new MonitorQueues\\((\\d+)\\);.*");
    private static final Pattern CALL = Pattern.compile("m\\.(\\w+)\\((.*)\\); +// (-?\\d+)(:.*)?");

    private static Object argument(Class<?> type, String written) {
        if (type == boolean.class) {
            return Boolean.valueOf(written);
        }
        if (type == long.class) {
            return Long.valueOf(written.replace("L", ""));
        }
        return Integer.valueOf(written);
    }

    private static Method method(String name) {
        for (Method m : MonitorQueues.class.getMethods()) {
            if (m.getName().equals(name)) {
                return m;
            }
        }
        throw new IllegalStateException("no method " + name);
    }

    private static long answer(MonitorQueues x, String name, String written) throws ReflectiveOperationException {
        Method m = method(name);
        String[] each = written.split(", ");
        Object[] arguments = new Object[each.length];
        for (int i = 0; i < each.length; i++) {
            arguments[i] = argument(m.getParameterTypes()[i], each[i]);
        }
        return ((Number) m.invoke(x, arguments)).longValue();
    }

    private static Set<String> face() {
        Set<String> names = new TreeSet<>();
        for (Method m : MonitorQueues.class.getMethods()) {
            if (m.getDeclaringClass() == MonitorQueues.class) {
                names.add(m.getName());
            }
        }
        return names;
    }

    public static void main(String[] args) throws IOException, ReflectiveOperationException {
        Due due = new Due();
        due.sentence("The public face", "public final class MonitorQueues {");
        List<String> lines = Files.readAllLines(README, StandardCharsets.UTF_8);
        MonitorQueues x = null;
        Set<String> shown = new TreeSet<>();
        for (String line : lines) {
            Matcher made = MADE.matcher(line);
            Matcher call = CALL.matcher(line);
            if (made.matches()) {
                x = new MonitorQueues(Integer.parseInt(made.group(1)));
            } else if (line.startsWith("m.")) {
                due.isTrue("an answer stands behind " + line, call.matches());
                due.is(line, answer(x, call.group(1), call.group(2)), Long.parseLong(call.group(3)));
                shown.add(call.group(1));
            }
        }
        due.isTrue("the example shows each call of the face: " + shown, shown.equals(face()));
        due.finish();
    }
}
