import java.io.IOException;
import java.lang.reflect.InvocationTargetException;
import java.lang.reflect.Method;
import java.lang.reflect.Modifier;
import java.nio.file.Files;
import java.nio.file.Path;
import java.util.ArrayList;
import java.util.List;
import java.util.Set;
import java.util.TreeSet;
import java.util.regex.Matcher;
import java.util.regex.Pattern;

/** README.md holds: each call of its example answers what stands behind it, and each call of the face is told. */
public final class ReadmeTest {
    private static final Checks CHECKS = new Checks();
    private static final Pattern MAKING = Pattern.compile("SharedShelf shelf = new SharedShelf\\((\\d+)\\);");
    private static final Pattern CALL = Pattern.compile("shelf\\.(\\w+)\\(([^)]*)\\);\\s+// ((?:throws )?-?\\w+): .+");
    private static final Pattern ROW = Pattern.compile("\\| `(\\w+) (\\w+)\\(([^)]*)\\)` \\| .+ \\|");

    private static SharedShelf shelf;

    public static void main(String[] args) throws Exception {
        String text = Files.readString(Path.of("README.md"));
        example(text);
        rows(text);
        CHECKS.due("it tells how to make an object", text.contains("`new SharedShelf(nodes)`"), true);
        CHECKS.due("it tells of NONE", text.contains("`SharedShelf.NONE` is " + SharedShelf.NONE + ":"), true);
        CHECKS.due("it tells the command that runs the tests", text.contains("\n    .ci/run\n"), true);
        tests(text);
        CHECKS.end();
    }

    private static void example(String text) throws IllegalAccessException {
        Set<String> called = new TreeSet<>();
        for (String line : linesOfCode(text)) {
            Matcher making = MAKING.matcher(line);
            Matcher call = CALL.matcher(line);
            if (making.matches()) {
                shelf = new SharedShelf(Integer.parseInt(making.group(1)));
            } else if (call.matches()) {
                called.add(call.group(1));
                String got = made(call.group(1), call.group(2));
                CHECKS.dueSame(line + " (got: " + got + ")", got, call.group(3));
            } else {
                CHECKS.due("a line of the example that is not understood: " + line, true, false);
            }
        }
        Set<String> names = new TreeSet<>();
        for (Method m : face()) {
            names.add(m.getName());
        }
        CHECKS.dueSame("the example's calls are " + called, called.toString(), names.toString());
    }

    private static List<String> linesOfCode(String text) {
        List<String> lines = new ArrayList<>();
        boolean isCode = false;
        for (String line : text.split("\n")) {
            if (line.startsWith("```")) {
                isCode = !isCode;
            } else if (isCode) {
                lines.add(line);
            }
        }
        return lines;
    }

    private static String made(String name, String given) throws IllegalAccessException {
        String[] words = given.isEmpty() ? new String[0] : given.split(", ");
        Object[] numbers = new Object[words.length];
        for (int k = 0; k < words.length; k++) {
            numbers[k] = Integer.parseInt(words[k]);
        }
        for (Method m : face()) {
            if (m.getName().equals(name) && m.getParameterCount() == numbers.length) {
                return answered(m, numbers);
            }
        }
        return "no such method";
    }

    private static String answered(Method m, Object[] numbers) throws IllegalAccessException {
        try {
            return String.valueOf(m.invoke(shelf, numbers));
        } catch (InvocationTargetException e) {
            return "throws " + e.getCause().getClass().getSimpleName();
        }
    }

    /** The tables tell each method once, as it stands in the face, with each exception that it declares. */
    private static void rows(String text) {
        Set<String> told = new TreeSet<>();
        for (String line : text.split("\n")) {
            Matcher row = ROW.matcher(line);
            if (row.matches()) {
                String types = row.group(3).replaceAll(" \\w+(, )?", ",").replaceAll(",$", "");
                String face = row.group(1) + " " + row.group(2) + "(" + types + ")";
                CHECKS.due("it tells " + face + " once", told.add(face), true);
                thrown(row.group(2), line);
            }
        }
        Set<String> due = new TreeSet<>();
        for (Method m : face()) {
            due.add(signature(m));
        }
        CHECKS.dueSame("the rows are " + told, told.toString(), due.toString());
    }

    private static void thrown(String name, String row) {
        // Of query the row says 'likewise': it stands behind update's.
        String words = name.equals("query") ? row.replace("exceptions likewise",
                "`IndexOutOfBoundsException` `IllegalArgumentException`") : row;
        for (Method m : face()) {
            for (Class<?> c : m.getExceptionTypes()) {
                CHECKS.due(name + "'s row tells of " + c.getSimpleName(),
                        !m.getName().equals(name) || words.contains("`" + c.getSimpleName() + "`"), true);
            }
        }
    }

    private static String signature(Method m) {
        StringBuilder types = new StringBuilder();
        for (Class<?> c : m.getParameterTypes()) {
            types.append(types.length() == 0 ? "" : ",").append(c.getSimpleName());
        }
        return m.getReturnType().getSimpleName() + " " + m.getName() + "(" + types + ")";
    }

    private static List<Method> face() {
        List<Method> found = new ArrayList<>();
        for (Method m : SharedShelf.class.getDeclaredMethods()) {
            if (Modifier.isPublic(m.getModifiers())) {
                found.add(m);
            }
        }
        return found;
    }

    private static void tests(String text) throws IOException {
        try (var files = Files.list(Path.of("src/test/java"))) {
            for (Path file : files.toList()) {
                String name = file.getFileName().toString().replace(".java", "");
                CHECKS.due("it tells of " + name, text.contains("`" + name + "`"), true);
            }
        }
    }
}
