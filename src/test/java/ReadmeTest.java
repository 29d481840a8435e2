import java.io.IOException;
import java.lang.reflect.InvocationTargetException;
import java.lang.reflect.Method;
import java.lang.reflect.Modifier;
import java.nio.file.Files;
import java.nio.file.Path;
import java.util.List;
import java.util.Map;
import java.util.Set;
import java.util.TreeMap;
import java.util.TreeSet;
import java.util.regex.Matcher;
import java.util.regex.Pattern;

/** The example of README.md: each of its calls answers what stands behind it, and each of the face's calls is there. */
public final class ReadmeTest {
    private static final String START = "FacetRows rows = new FacetRows();";
    private static final Pattern CALL = Pattern.compile(
        "rows\\.(\\w+)\\(([^)]*)\\); +// (throws \\w+|NONE|true|false|\\d+)(: .*)?");

    private static final Due due = new Due();
    private static final Map<String, Method> face = face();

    public static void main(String[] args) throws IOException {
        due.part("README.md");
        List<String> example = example(Files.readString(Path.of("README.md")).lines().toList());
        due.is("the example's first line", example.get(0), START);
        FacetRows rows = new FacetRows();
        Set<String> shown = new TreeSet<>();
        int calls = 0;
        for (String line : example.subList(1, example.size())) {
            if (!line.isEmpty() && !line.startsWith("//")) {
                shown.add(look(rows, line));
                calls++;
            }
        }
        due.isTrue("no more than 512 calls: " + calls, calls <= 512);
        due.is("the calls shown", shown.toString(), face.keySet().toString());
        due.end();
    }

    private static Map<String, Method> face() {
        Map<String, Method> all = new TreeMap<>();
        for (Method m : FacetRows.class.getDeclaredMethods()) {
            if (Modifier.isPublic(m.getModifiers())) {
                all.put(m.getName(), m);
            }
        }
        return all;
    }

    private static List<String> example(List<String> lines) {
        List<String> behind = lines.subList(lines.indexOf("```java") + 1, lines.size());
        return behind.subList(0, behind.indexOf("```"));
    }

    private static String look(FacetRows rows, String line) {
        Matcher parts = CALL.matcher(line);
        if (!parts.matches() || !face.containsKey(parts.group(1))) {
            due.is("a line of the example", line, "rows.<call>(..);  // <answer>[: why]");
            return line;
        }
        String call = line.substring(0, line.indexOf(';'));
        due.is(call, answer(rows, face.get(parts.group(1)), parts.group(2)), parts.group(3));
        return parts.group(1);
    }

    private static String answer(FacetRows rows, Method call, String written) {
        try {
            String told = call.invoke(rows, arguments(call, written)).toString();
            return told.equals("-1") ? "NONE" : told;
        } catch (InvocationTargetException e) {
            return "throws " + e.getCause().getClass().getSimpleName();
        } catch (IllegalAccessException e) {
            return "no access: " + e.getMessage();
        }
    }

    private static Object[] arguments(Method call, String written) {
        Class<?>[] types = call.getParameterTypes();
        Object[] all = new Object[types.length];
        String[] parts = written.split(", ");
        for (int n = 0; n < types.length; n++) {
            all[n] = argument(types[n], parts[n]);
        }
        return all;
    }

    private static Object argument(Class<?> type, String written) {
        if (type == boolean.class) {
            return Boolean.valueOf(written);
        }
        return Integer.valueOf(written);
    }
}
