import java.lang.reflect.InvocationTargetException;
import java.lang.reflect.Method;
import java.lang.reflect.Modifier;
import java.nio.file.Files;
import java.nio.file.Path;
import java.util.Set;
import java.util.TreeSet;
import java.util.regex.Matcher;
import java.util.regex.Pattern;

/** Makes the calls that stand in README.md, line by line: each answers what stands behind it. */
public final class ReadmeTest {
    private static final Check CHECK = new Check();
    private static final Pattern MADE = Pattern.compile("TimedThreads x = new TimedThreads\\((-?\\d+)\\);.*");
    private static final Pattern CALL = Pattern.compile("x\\.(\\w+)\\((.*?)\\); *// (throws \\w+|true|false|-?\\d+)(: .*)?");

    public static void main(String[] args) throws Exception {
        Set<String> shown = new TreeSet<>();
        TimedThreads x = null;
        boolean inside = false;
        for (String line : Files.readAllLines(Path.of("README.md"))) {
            if (line.startsWith("```")) {
                inside = line.equals("```java");
                continue;
            }
            if (!inside) {
                continue;
            }
            Matcher made = MADE.matcher(line);
            Matcher call = CALL.matcher(line);
            boolean isMade = made.matches();
            CHECK.due("README.md: a line of another form: " + line, isMade || call.matches(), true);
            if (isMade) {
                x = new TimedThreads(Integer.parseInt(made.group(1)));
            } else if (call.matches()) {
                shown.add(call.group(1));
                CHECK.same("README.md: " + line, Set.of(answer(x, call.group(1), call.group(2))), Set.of(call.group(3)));
            }
        }
        CHECK.same("README.md shows", shown, face());
        CHECK.end();
    }

    private static String answer(TimedThreads x, String name, String given) throws IllegalAccessException {
        Method method = methodOf(name);
        String[] texts = given.isEmpty() ? new String[0] : given.split(", ");
        Object[] arguments = new Object[texts.length];
        for (int k = 0; k < texts.length; k++) {
            boolean isLong = method.getParameterTypes()[k] == long.class;
            long value = Long.decode(texts[k].replace("L", ""));
            arguments[k] = isLong ? (Object) value : (Object) (int) value;
        }
        try {
            return method.invoke(x, arguments).toString();
        } catch (InvocationTargetException e) {
            return "throws " + e.getCause().getClass().getSimpleName();
        }
    }

    private static Method methodOf(String name) {
        for (Method method : TimedThreads.class.getDeclaredMethods()) {
            if (method.getName().equals(name)) {
                return method;
            }
        }
        throw new IllegalArgumentException("README.md calls " + name + ", which there is not");
    }

    private static Set<String> face() {
        Set<String> names = new TreeSet<>();
        for (Method method : TimedThreads.class.getDeclaredMethods()) {
            if (Modifier.isPublic(method.getModifiers())) {
                names.add(method.getName());
            }
        }
        return names;
    }
}
