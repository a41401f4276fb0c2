import java.lang.reflect.Method;
import java.lang.reflect.Modifier;
import java.nio.file.Files;
import java.nio.file.Path;
import java.util.HashMap;
import java.util.List;
import java.util.Map;
import java.util.regex.Matcher;
import java.util.regex.Pattern;

/** README.md: its example answers as it says, it names every call, and each promise has its marks in the tests. */
public final class ReadmeTest {
    private static final Pattern LINE = Pattern.compile("    (?:int (\\w+) = )?fees\\.(\\w+)\\((.*)\\); +// (-?\\d+)(:.*)?");
    private static final int PROMISES = 42;
    private static final int TERMS = 7;
    private static final Due due = new Due();

    public static void main(String[] args) throws Exception {
        String readme = Files.readString(Path.of("README.md"));
        example(readme.split("\n"));
        names(readme);
        marks();
        due.end();
    }

    private static void example(String[] lines) throws Exception {
        SkyFees fees = new SkyFees();
        Map<String, Integer> known = new HashMap<>();
        int calls = 0;
        for (String line : lines) {
            Matcher m = LINE.matcher(line);
            if (m.matches()) {
                int got = answer(fees, m.group(2), m.group(3), known);
                due.is(line, got, Integer.parseInt(m.group(4)));
                known.put(String.valueOf(m.group(1)), got);
                calls++;
            } else {
                due.is(line + ": has a call without its answer", line.startsWith("    fees.") ? 1 : 0, 0);
            }
        }
        due.is("the example has calls", calls > 0 ? 1 : 0, 1);
    }

    private static int answer(SkyFees fees, String name, String given, Map<String, Integer> known) throws Exception {
        String[] words = given.isEmpty() ? new String[0] : given.split(", ");
        for (Method m : face()) {
            if (m.getName().equals(name) && m.getParameterCount() == words.length) {
                Object[] values = new Object[words.length];
                for (int i = 0; i < words.length; i++) {
                    values[i] = value(words[i], m.getParameterTypes()[i], known);
                }
                return (int) m.invoke(fees, values);
            }
        }
        throw new IllegalArgumentException("no such call: " + name + "(" + given + ")");
    }

    private static Object value(String word, Class<?> type, Map<String, Integer> known) {
        if (type == boolean.class) {
            return Boolean.valueOf(word);
        }
        long number = known.containsKey(word) ? known.get(word) : Long.parseLong(word);
        return type == long.class ? (Object) number : (Object) Math.toIntExact(number);
    }

    private static List<Method> face() {
        return List.of(SkyFees.class.getDeclaredMethods()).stream().filter(m -> Modifier.isPublic(m.getModifiers())).toList();
    }

    private static void names(String readme) {
        for (Method m : face()) {
            due.is("README.md names " + m.getName(), readme.contains("`" + m.getName() + "`") ? 1 : 0, 1);
        }
        due.is("README.md says how the tests are run", readme.contains("\n    .ci/run\n") ? 1 : 0, 1);
    }

    /** Each promise has checks both among the plain tests and among those of boundary cases. */
    private static void marks() throws Exception {
        StringBuilder plain = new StringBuilder();
        StringBuilder edges = new StringBuilder();
        try (var files = Files.newDirectoryStream(Path.of("src/test/java"), "*Test.java")) {
            for (Path file : files) {
                (file.toString().endsWith("EdgeTest.java") ? edges : plain).append(Files.readString(file));
            }
        }
        for (int n = 1; n <= PROMISES; n++) {
            String mark = "\"" + n + ": ";
            due.is("promise " + n + " has a test", plain.indexOf(mark) >= 0 ? 1 : 0, 1);
            due.is("promise " + n + " has a test of its edges", edges.indexOf(mark) >= 0 ? 1 : 0, 1);
        }
        for (int n = 1; n <= TERMS; n++) {
            due.is("term " + n + " has a test of its edges", edges.indexOf("\"T" + n + ": ") >= 0 ? 1 : 0, 1);
        }
    }
}
