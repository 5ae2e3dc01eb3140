import java.io.IOException;
import java.lang.reflect.Method;
import java.lang.reflect.Modifier;
import java.nio.file.Files;
import java.nio.file.Path;
import java.util.HashMap;
import java.util.List;
import java.util.Map;
import java.util.Set;
import java.util.TreeSet;
import java.util.regex.Matcher;
import java.util.regex.Pattern;
import java.util.stream.Collectors;
import java.util.stream.Stream;

/** What README.md shows is what the class answers, and nothing of the class or of its tests is missing there. */
public final class LazyStateReadme {
    private static final Path README = Path.of("README.md");
    private static final Path TESTS = Path.of("src/test/java");
    private static final Pattern CALL = Pattern.compile("x\\.(\\w+)\\(([^)]*)\\);\\s*// (-?\\d+)( .*)?");

    private static int wrong = 0;

    public static void main(String[] args) throws Exception {
        List<String> lines = Files.readAllLines(README);
        int calls = makeCalls(lines);
        nameTests(String.join("\n", lines));
        System.out.println(calls + " calls of README.md, " + wrong + " faults");
        if (wrong != 0) {
            System.exit(1);
        }
    }

    private static void fail(String what) {
        wrong++;
        System.out.println("README.md: " + what);
    }

    private static int makeCalls(List<String> lines) throws ReflectiveOperationException {
        Map<String, Method> face = face();
        Set<String> missing = new TreeSet<>(face.keySet());
        LazyState x = new LazyState();
        int calls = 0;
        for (String line : lines) {
            if (!line.startsWith("x.")) {
                continue;
            }
            Matcher parts = CALL.matcher(line);
            if (!parts.matches() || !face.containsKey(parts.group(1))) {
                fail("no call with an answer: " + line);
                continue;
            }
            Method method = face.get(parts.group(1));
            long got = ((Number) method.invoke(x, arguments(method, parts.group(2)))).longValue();
            if (got != Long.parseLong(parts.group(3))) {
                fail(line + " (answered " + got + ")");
            }
            missing.remove(method.getName());
            calls++;
        }
        if (!missing.isEmpty()) {
            fail("no call of " + missing);
        }
        return calls;
    }

    private static Map<String, Method> face() {
        Map<String, Method> face = new HashMap<>();
        for (Method m : LazyState.class.getDeclaredMethods()) {
            if (Modifier.isPublic(m.getModifiers())) {
                face.put(m.getName(), m);
            }
        }
        return face;
    }

    private static Object[] arguments(Method method, String text) {
        String[] words = text.isEmpty() ? new String[0] : text.split(", ");
        Object[] arguments = new Object[words.length];
        for (int k = 0; k < words.length; k++) {
            long n = words[k].equals("LazyState.NONE") ? LazyState.NONE : Long.parseLong(words[k]);
            boolean wide = method.getParameterTypes()[k] == long.class;
            arguments[k] = wide ? (Object) n : (Object) Math.toIntExact(n);
        }
        return arguments;
    }

    private static void nameTests(String text) throws IOException {
        List<String> names;
        try (Stream<Path> files = Files.list(TESTS)) {
            names = files.map(file -> file.getFileName().toString().replace(".java", "")).collect(Collectors.toList());
        }
        for (String name : names) {
            if (!text.contains("- `" + name + "`: ")) {
                fail("the test " + name + " is not told of");
            }
        }
        if (!text.contains(".ci/run")) {
            fail("it does not tell how to run the tests");
        }
    }
}
