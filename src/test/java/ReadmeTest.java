import java.lang.reflect.InvocationTargetException;
import java.lang.reflect.Method;
import java.nio.charset.StandardCharsets;
import java.nio.file.Files;
import java.nio.file.Path;
import java.util.Arrays;
import java.util.List;
import java.util.Set;
import java.util.TreeSet;
import java.util.regex.Matcher;
import java.util.regex.Pattern;

/** What README.md shows as a use of the class is run as it stands there, and each answer is the one that it tells. */
public final class ReadmeTest {
    private static final String FIRST = "Clocksolo clocks = new Clocksolo();";
    /** A call, its arguments, the answer due, and what is told of it behind ": ". */
    private static final Pattern CALL = Pattern.compile(
        "clocks\\.(\\w+)\\(([-0-9, ]*)\\); +// (\"[^\"]*\"|throws \\w+|-?\\w+)(: .+)?");

    private static int wrong = 0;

    public static void main(String[] args) throws Exception {
        List<String> page = Files.readAllLines(Path.of("README.md"), StandardCharsets.UTF_8);
        Set<String> shown = new TreeSet<>();
        int calls = run(page, shown);
        need(shown.equals(face()), "every call of the face is shown: " + shown);
        System.out.println(calls + " calls of README.md run, " + wrong + " wrong");
        if (wrong != 0) {
            System.exit(1);
        }
    }

    private static int run(List<String> page, Set<String> shown) throws IllegalAccessException {
        int begin = page.indexOf("```java");
        need(begin >= 0 && begin + 1 < page.size() && page.get(begin + 1).equals(FIRST), "the use begins: " + FIRST);
        Clocksolo clocks = new Clocksolo();
        int calls = 0;
        for (int line = begin + 2; line < page.size() && !page.get(line).equals("```"); line++) {
            String written = page.get(line);
            if (written.isEmpty() || written.startsWith("// ")) {
                continue;
            }
            Matcher call = CALL.matcher(written);
            if (!call.matches()) {
                need(false, "line " + (line + 1) + " is a call with its answer: " + written);
                continue;
            }
            String got = answer(clocks, call.group(1), numbers(call.group(2)));
            need(got.equals(call.group(3)), "line " + (line + 1) + ", " + written + " (answered " + got + ")");
            shown.add(call.group(1));
            calls++;
        }
        return calls;
    }

    private static Object[] numbers(String written) {
        if (written.isBlank()) {
            return new Object[0];
        }
        return Arrays.stream(written.split(",")).map(number -> Integer.valueOf(number.trim())).toArray();
    }

    private static String answer(Clocksolo clocks, String name, Object[] arguments) throws IllegalAccessException {
        for (Method method : Clocksolo.class.getDeclaredMethods()) {
            if (method.getName().equals(name) && method.getParameterCount() == arguments.length) {
                return answer(clocks, method, arguments);
            }
        }
        return "no such call";
    }

    private static String answer(Clocksolo clocks, Method method, Object[] arguments) throws IllegalAccessException {
        try {
            Object got = method.invoke(clocks, arguments);
            return got instanceof String ? "\"" + got + "\"" : String.valueOf(got);
        } catch (InvocationTargetException e) {
            return "throws " + e.getCause().getClass().getSimpleName();
        }
    }

    private static Set<String> face() {
        Set<String> names = new TreeSet<>();
        for (Method method : Clocksolo.class.getMethods()) {
            if (method.getDeclaringClass() == Clocksolo.class) {
                names.add(method.getName());
            }
        }
        return names;
    }

    private static void need(boolean holds, String what) {
        if (!holds) {
            wrong++;
            System.out.println("not so: " + what);
        }
    }
}
