import java.lang.reflect.Method;
import java.nio.charset.StandardCharsets;
import java.nio.file.Files;
import java.nio.file.Path;
import java.util.Set;
import java.util.TreeSet;
import java.util.regex.Matcher;
import java.util.regex.Pattern;

/** README.md: the calls of its example answer what stands behind them, and its table names every call of the face. */
public final class ReadmeTest {
    private static final Pattern EXAMPLE = Pattern.compile("text\\.(\\w+)\\(([^)]*)\\);\\s*// (-?\\d+):.*");
    private static final Pattern TABLE = Pattern.compile("`(\\w+)\\(([\\w, ]*)\\)`");
    private static int wrong = 0;
    private static int asked = 0;

    private static void due(String call, Object got, Object want) {
        asked++;
        if (got.equals(want)) return;
        wrong++;
        System.out.println("README.md: " + call + " answered " + got + ", there stands " + want);
    }

    private static Method method(String name) {
        for (Method m : NotesBelow.class.getDeclaredMethods()) {
            if (m.getName().equals(name)) return m;
        }
        throw new IllegalStateException("no call " + name);
    }

    private static Object value(Class<?> type, String word) {
        if (type == boolean.class) return Boolean.valueOf(word);
        if (type == long.class) return Long.decode(word.replace("L", ""));
        return Integer.decode(word);
    }

    private static Object[] values(Method m, String words) {
        Class<?>[] types = m.getParameterTypes();
        String[] parts = words.isEmpty() ? new String[0] : words.split(", ");
        if (parts.length != types.length) throw new IllegalStateException(m.getName() + "(" + words + ")");
        Object[] all = new Object[types.length];
        for (int k = 0; k < all.length; k++) all[k] = value(types[k], parts[k]);
        return all;
    }

    private static void example(String readme) throws Exception {
        int from = readme.indexOf("```java\n") + 8;
        NotesBelow text = null;
        for (String line : readme.substring(from, readme.indexOf("```", from)).split("\n")) {
            if (line.equals("NotesBelow text = new NotesBelow();")) {
                text = new NotesBelow();
                continue;
            }
            Matcher call = EXAMPLE.matcher(line);
            if (!call.matches()) throw new IllegalStateException("no call with its answer: " + line);
            Method m = method(call.group(1));
            due(line, m.invoke(text, values(m, call.group(2))), Integer.valueOf(call.group(3)));
        }
    }

    private static void table(String readme) {
        Set<String> named = new TreeSet<>(), face = new TreeSet<>();
        for (String line : readme.split("\n")) {
            if (!line.startsWith("| `")) continue;
            Matcher call = TABLE.matcher(line.substring(0, line.indexOf(" | ", 1)));
            while (call.find()) {
                named.add(call.group(1));
                int parameters = call.group(2).isEmpty() ? 0 : call.group(2).split(", ").length;
                due(call.group(), parameters, method(call.group(1)).getParameterCount());
            }
        }
        for (Method m : NotesBelow.class.getMethods()) {
            if (m.getDeclaringClass() == NotesBelow.class) face.add(m.getName());
        }
        due("the table of calls", named, face);
    }

    public static void main(String[] args) throws Exception {
        String readme = Files.readString(Path.of("README.md"), StandardCharsets.US_ASCII);
        example(readme);
        table(readme);
        System.out.println(wrong == 0 ? asked + " answers are as in README.md" : wrong + " answers are not as in README.md");
        if (wrong != 0) System.exit(1);
    }
}
