import java.lang.reflect.Method;
import java.lang.reflect.Modifier;
import java.nio.file.Files;
import java.nio.file.Path;
import java.util.List;
import java.util.Set;
import java.util.TreeSet;
import java.util.regex.Matcher;
import java.util.regex.Pattern;

/** The calls of README.md's examples answer what README.md says that they answer. */
public final class ReadmeTest {
    private static final String NEW_OBJECT = "SeedDrawers store = new SeedDrawers();";
    /** A call, then the answer (a number or a constant's name), then words or none. */
    private static final Pattern CALL = Pattern.compile(
        "store\\.(\\w+)\\(((?:-?\\d+L?(?:, -?\\d+L?)*)?)\\); +// (-?\\d+|[A-Z]+)(?:: .+)?");

    private static final Check check = new Check();
    private static final Set<String> called = new TreeSet<>();

    public static void main(String[] args) throws Exception {
        List<String> lines = Files.readAllLines(Path.of("README.md"));
        boolean isExample = false;
        SeedDrawers store = null;
        for (int k = 0; k < lines.size(); k++) {
            String line = lines.get(k);
            check.part("README.md, line " + (k + 1));
            if (line.startsWith("```")) {
                isExample = line.equals("```java");
                store = null;
            } else if (isExample && line.equals(NEW_OBJECT)) {
                store = new SeedDrawers();
            } else if (isExample) {
                answersAsShown(store, line);
            }
        }
        check.part("README.md");
        everyCallIsShown();
        check.end();
    }

    private static void answersAsShown(SeedDrawers store, String line) throws Exception {
        Matcher shown = CALL.matcher(line);
        Method method = shown.matches() ? methodOf(shown.group(1)) : null;
        String[] texts = method == null || shown.group(2).isEmpty() ? new String[0] : shown.group(2).split(", ");
        if (store == null || method == null || texts.length != method.getParameterCount()) {
            check.fail("'" + line + "' is no call of an object's with its answer");
            return;
        }
        Object[] arguments = new Object[texts.length];
        for (int k = 0; k < texts.length; k++) {
            arguments[k] = argumentOf(method.getParameterTypes()[k], texts[k]);
        }
        called.add(method.getName());
        check.due(line.substring(0, line.indexOf(';')), ((Number) method.invoke(store, arguments)).longValue(),
            answerOf(shown.group(3)));
    }

    private static Method methodOf(String name) {
        for (Method method : SeedDrawers.class.getDeclaredMethods()) {
            if (Modifier.isPublic(method.getModifiers()) && method.getName().equals(name)) {
                return method;
            }
        }
        return null;
    }

    /** As javac takes it: a number without L is an int, and one with L is no argument for an int. */
    private static Object argumentOf(Class<?> type, String text) {
        if (type == long.class) {
            return text.endsWith("L") ? Long.parseLong(text.substring(0, text.length() - 1)) : Integer.parseInt(text);
        }
        return Integer.parseInt(text);
    }

    private static long answerOf(String text) throws Exception {
        return Character.isUpperCase(text.charAt(0)) ? SeedDrawers.class.getField(text).getInt(null)
            : Long.parseLong(text);
    }

    private static void everyCallIsShown() {
        for (Method method : SeedDrawers.class.getDeclaredMethods()) {
            if (Modifier.isPublic(method.getModifiers()) && !called.contains(method.getName())) {
                check.fail("no example shows " + method.getName());
            }
        }
    }
}
