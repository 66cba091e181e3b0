import java.io.IOException;
import java.lang.reflect.InvocationTargetException;
import java.lang.reflect.Method;
import java.lang.reflect.Modifier;
import java.nio.file.Files;
import java.nio.file.Path;
import java.util.HashMap;
import java.util.Map;
import java.util.TreeSet;
import java.util.regex.Matcher;
import java.util.regex.Pattern;

/** Each call that README.md shows is made, and must have the answer that stands behind it. */
public final class ReadmeTest {
    private static final String FENCE = "```";
    private static final Pattern MAKING = Pattern.compile(
            "GridShapes (\\w+) = new GridShapes\\((-?\\d+), (-?\\d+), (-?\\d+)\\);");
    // The answer ends with the line or before a colon, behind which words may stand.
    private static final Pattern CALL = Pattern.compile(
            "(\\w+)\\.(\\w+)\\(([^)]*)\\);\\s+// (throws \\w+|[^\\s:]+)(: .*)?");

    private static final Checks checks = new Checks();
    private static final Map<String, GridShapes> objects = new HashMap<>();
    private static final TreeSet<String> shown = new TreeSet<>();

    private ReadmeTest() {
    }

    public static void main(String[] args) throws IOException, IllegalAccessException {
        boolean inside = false;
        for (String line : Files.readAllLines(Path.of("README.md"))) {
            if (line.startsWith(FENCE)) {
                inside = !inside && line.equals(FENCE + "java");
            } else if (inside && !line.isBlank()) {
                follow(line.strip());
            }
        }
        checks.due("the calls that README.md shows", shown.toString(), face().toString());
        checks.finish();
    }

    private static TreeSet<String> face() {
        TreeSet<String> names = new TreeSet<>();
        for (Method method : GridShapes.class.getDeclaredMethods()) {
            if (Modifier.isPublic(method.getModifiers())) {
                names.add(method.getName());
            }
        }
        return names;
    }

    /** A line that is neither a making nor a call with its answer would go untested: it is wrong. */
    private static void follow(String line) throws IllegalAccessException {
        Matcher making = MAKING.matcher(line);
        if (making.matches()) {
            objects.put(making.group(1), new GridShapes(Integer.parseInt(making.group(2)),
                    Integer.parseInt(making.group(3)), Integer.parseInt(making.group(4))));
            return;
        }
        Matcher call = CALL.matcher(line);
        boolean understood = call.matches() && objects.containsKey(call.group(1));
        checks.due("'" + line + "' is a call with its answer", understood, true);
        if (understood) {
            shown.add(call.group(2));
            checks.due("'" + line + "'", answer(call), call.group(4));
        }
    }

    private static String answer(Matcher call) throws IllegalAccessException {
        String[] words = call.group(3).isEmpty() ? new String[0] : call.group(3).split(", ");
        for (Method method : GridShapes.class.getMethods()) {
            if (method.getName().equals(call.group(2))
                    && method.getParameterCount() == words.length) {
                return answer(objects.get(call.group(1)), method, words);
            }
        }
        return "no such call";
    }

    private static String answer(GridShapes g, Method method, String[] words)
            throws IllegalAccessException {
        Object[] arguments = new Object[words.length];
        for (int i = 0; i < words.length; i++) {
            arguments[i] = argument(words[i], method.getParameterTypes()[i]);
        }
        try {
            return String.valueOf(method.invoke(g, arguments));
        } catch (InvocationTargetException e) {
            return "throws " + e.getCause().getClass().getSimpleName();
        }
    }

    private static Object argument(String word, Class<?> type) {
        if (type == boolean.class) {
            return Boolean.valueOf(word);
        }
        return word.startsWith("'") ? Integer.valueOf(word.charAt(1)) : Integer.valueOf(word);
    }
}
