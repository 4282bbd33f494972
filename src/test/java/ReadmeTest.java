import java.lang.reflect.Method;
import java.nio.charset.StandardCharsets;
import java.nio.file.Files;
import java.nio.file.Path;
import java.util.Map;
import java.util.TreeMap;
import java.util.regex.Matcher;
import java.util.regex.Pattern;

/** README.md tells the truth: its example answers as its comments say, and its table has the calls of the face. */
public final class ReadmeTest {
    private static final Pattern EXAMPLE = Pattern.compile("moor\\.(\\w+)\\(([^)]*)\\);\\s*// (-?\\d+)\\b.*");
    private static final Pattern LISTED = Pattern.compile("`(\\w+)\\(([^)]*)\\)`");
    private static int wrong = 0;

    public static void main(String[] args) throws Exception {
        String[] lines = Files.readString(Path.of("README.md"), StandardCharsets.UTF_8).split("\n");
        int calls = example(lines);
        must(calls > 20, "the example has " + calls + " calls");
        table(lines);
        System.out.println(wrong == 0 ? "README.md holds" : wrong + " faults in README.md");
        if (wrong != 0) System.exit(1);
    }

    private static void must(boolean ok, String what) {
        if (ok) return;
        wrong++;
        System.out.println(what);
    }

    private static int example(String[] lines) throws Exception {
        GateMinds moor = new GateMinds();
        int calls = 0;
        for (String line : lines) {
            if (!line.startsWith("moor.")) continue;
            Matcher m = EXAMPLE.matcher(line);
            must(m.matches(), "not a call with its answer: " + line);
            if (!m.matches()) continue;
            int got = call(moor, m.group(1), m.group(2));
            must(got == Integer.parseInt(m.group(3)), line + " answered " + got);
            calls++;
        }
        return calls;
    }

    private static int call(GateMinds moor, String name, String told) throws Exception {
        Method method = faces().get(name);
        String[] words = told.isEmpty() ? new String[0] : told.split(", ");
        Object[] args = new Object[words.length];
        for (int i = 0; i < args.length; i++) {
            boolean wide = method.getParameterTypes()[i] == long.class;
            if (wide) args[i] = Long.decode(words[i].replace("L", "")); else args[i] = Integer.decode(words[i]);
        }
        return (Integer) method.invoke(moor, args);
    }

    private static Map<String, Method> faces() {
        Map<String, Method> all = new TreeMap<>();
        for (Method m : GateMinds.class.getMethods()) if (m.getDeclaringClass() == GateMinds.class) all.put(m.getName(), m);
        return all;
    }

    private static void table(String[] lines) {
        Map<String, Method> missing = faces();
        for (String line : lines) {
            if (!line.startsWith("| `")) continue;
            Matcher m = LISTED.matcher(line);
            while (m.find()) {
                Method method = missing.remove(m.group(1));
                int told = m.group(2).isEmpty() ? 0 : m.group(2).split(", ").length;
                must(method != null && method.getParameterCount() == told, "no such call, or twice: " + m.group());
            }
        }
        must(missing.isEmpty(), "the table lacks " + missing.keySet());
    }
}
