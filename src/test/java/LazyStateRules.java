import java.lang.reflect.Constructor;
import java.lang.reflect.Field;
import java.lang.reflect.Method;
import java.lang.reflect.Modifier;
import java.nio.file.Files;
import java.nio.file.Path;
import java.util.ArrayList;
import java.util.Arrays;
import java.util.List;
import java.util.Random;
import java.util.Set;
import java.util.TreeSet;
import java.util.regex.Matcher;
import java.util.regex.Pattern;

/** The rules of LANGUAGE.md that a program can look at, and calls with any arguments in any order. */
public final class LazyStateRules {
    private static final Path SOURCE = Path.of("src/main/java/LazyState.java");
    private static final String[] FACE = {
        "int object(int)", "int number(int,int,long)", "int link(int,int,int)", "int row(int,int,int)",
        "int act(int,int,int,long,int,int,int)", "int clear(int)", "int call(int,int,long)", "long gave()",
        "int where()", "int touched(int,int)", "int written(int)", "int loaded(int)", "int cached(int)",
        "int hint(int)", "int times(int)", "int all(int,int,long)", "long view(int,int,int,int)", "int status()",
        "int told(int)",
    };
    private static final String[] FORBIDDEN = {
        "\\bthrow\\b", "\\btry\\b", "\\bcatch\\b", "\\bsynchronized\\b", "\\bassert\\b", "->", "::", "\\bstatic\\s*\\{",
        "\\bSystem\\.(?!arraycopy\\b)", "\\bRandom\\b", "\\bThread\\b", "Exact\\(", "\\bObject\\b", "\\bpackage\\b",
        "\\bimport (?!java\\.util\\.(Arrays|ArrayList|List|Iterator);)",
    };
    private static final int LONGEST_METHOD = 60;

    private static int wrong = 0;

    private static void check(boolean fine, String what) {
        if (!fine) {
            wrong++;
            System.out.println(what);
        }
    }

    public static void main(String[] args) throws Exception {
        face();
        classesInside();
        String source = Files.readString(SOURCE).replaceAll("(?s)/\\*.*?\\*/", "").replaceAll("//[^\n]*", "");
        for (String word : FORBIDDEN) {
            Matcher found = Pattern.compile(word).matcher(source);
            check(!found.find(), "the program must not have " + word);
        }
        methodLengths(Files.readAllLines(SOURCE));
        anyArguments();
        System.out.println(wrong == 0 ? "the rules are kept" : wrong + " rules are not kept");
        if (wrong != 0) {
            System.exit(1);
        }
    }

    private static void face() {
        Class<?> c = LazyState.class;
        check(Modifier.isPublic(c.getModifiers()) && Modifier.isFinal(c.getModifiers()), "the class is public and final");
        Set<String> open = new TreeSet<>();
        Set<String> hidden = new TreeSet<>();
        for (Method m : c.getDeclaredMethods()) {
            if (Modifier.isPrivate(m.getModifiers())) {
                hidden.add(m.getName());
            } else {
                List<String> types = new ArrayList<>();
                for (Class<?> type : m.getParameterTypes()) {
                    types.add(type.getName());
                }
                open.add(m.getReturnType() + " " + m.getName() + "(" + String.join(",", types) + ")");
                check(Modifier.isPublic(m.getModifiers()) && !Modifier.isStatic(m.getModifiers()), m + " is not as told");
            }
        }
        check(open.equals(new TreeSet<>(Arrays.asList(FACE))), "the open methods are " + open);
        for (String method : FACE) {
            String name = method.replaceAll(".* |\\(.*", "");
            check(!hidden.contains(name), "a private method has the name " + name);
        }
        Set<String> constants = new TreeSet<>();
        for (Field f : c.getDeclaredFields()) {
            if (!Modifier.isPrivate(f.getModifiers())) {
                constants.add(Modifier.toString(f.getModifiers()) + " " + f.getType() + " " + f.getName());
            }
        }
        check(constants.equals(Set.of("public static final int BAD", "public static final int FULL",
            "public static final int NONE")), "the open fields are " + constants);
        Constructor<?>[] makers = c.getDeclaredConstructors();
        check(makers.length == 1 && Modifier.isPublic(makers[0].getModifiers()) && makers[0].getParameterCount() == 0,
            "there is one public constructor without parameters");
    }

    private static void classesInside() {
        Class<?>[] inside = LazyState.class.getDeclaredClasses();
        check(inside.length < 12, "there are " + inside.length + " classes inside");
        List<Class<?>> classes = new ArrayList<>(Arrays.asList(inside));
        classes.add(LazyState.class);
        for (Class<?> c : classes) {
            check(c == LazyState.class || Modifier.isStatic(c.getModifiers()), c + " is not static");
            int fields = 0;
            for (Field f : c.getDeclaredFields()) {
                boolean fixed = Modifier.isStatic(f.getModifiers());
                fields += fixed ? 0 : 1;
                check(!fixed || Modifier.isFinal(f.getModifiers()), f + " is static and not final");
            }
            check(fields <= 20, c + " has " + fields + " fields");
            for (Method m : c.getDeclaredMethods()) {
                check(m.getParameterCount() <= 7, m + " has too many parameters");
            }
        }
    }

    /** A method begins and ends at the same indent: four spaces, or eight inside a class inside. */
    private static void methodLengths(List<String> lines) {
        for (int from = 0; from < lines.size(); from++) {
            Matcher start = Pattern.compile("^( {4}| {8})\\S.*\\) \\{$").matcher(lines.get(from));
            if (!start.matches()) {
                continue;
            }
            int to = from;
            while (to < lines.size() && !lines.get(to).equals(start.group(1) + "}")) {
                to++;
            }
            check(to - from < LONGEST_METHOD, "line " + (from + 1) + ": the method is too long");
        }
    }

    /** No call may throw, also behind the 512th. */
    private static void anyArguments() throws Exception {
        int[] edges = {Integer.MIN_VALUE, -4, -3, -2, -1, 0, 1, 2, 3, 4, 5, 7, 8, 9, 17, 18, 23, 24, 31, 32, 33, 40, 41,
            191, 192, 400, Integer.MAX_VALUE};
        List<Method> methods = new ArrayList<>();
        for (Method m : LazyState.class.getDeclaredMethods()) {
            if (Modifier.isPublic(m.getModifiers())) {
                methods.add(m);
            }
        }
        methods.sort((p, q) -> p.getName().compareTo(q.getName()));
        Random random = new Random(5);
        for (int run = 0; run < 200; run++) {
            LazyState x = new LazyState();
            int most = 1 + random.nextInt(edges.length);
            for (int k = 0; k < 2000; k++) {
                Method m = methods.get(random.nextInt(methods.size()));
                Object[] n = new Object[m.getParameterCount()];
                for (int i = 0; i < n.length; i++) {
                    int some = random.nextBoolean() ? random.nextInt(4) : edges[random.nextInt(most)];
                    if (m.getParameterTypes()[i] == long.class) {
                        n[i] = random.nextInt(9) == 0 ? random.nextLong() : (long) some;
                    } else {
                        n[i] = some;
                    }
                }
                m.invoke(x, n);
            }
        }
    }
}
