import java.io.IOException;
import java.lang.reflect.Constructor;
import java.lang.reflect.Field;
import java.lang.reflect.Method;
import java.lang.reflect.Modifier;
import java.nio.file.Files;
import java.nio.file.Path;
import java.util.Arrays;
import java.util.HashSet;
import java.util.List;
import java.util.Set;
import java.util.TreeSet;

/** The public face, the rules of LANGUAGE.md that can be looked at from outside, and any arguments at all. */
public final class FaceTest {
    private static final Checks CHECKS = new Checks();
    private static final Path SOURCE = Path.of("src/main/java/SharedShelf.java");
    private static final Set<String> FACE = new TreeSet<>(List.of(
            "int update(int,int,int,int) IndexOutOfBoundsException IllegalArgumentException",
            "int query(int,int,int) IndexOutOfBoundsException IllegalArgumentException",
            "int deliver(int) IndexOutOfBoundsException",
            "int calm(int) IllegalArgumentException",
            "boolean crash(int) IndexOutOfBoundsException",
            "int told(int,int)",
            "long answer(int)",
            "int view(int,int)",
            "int node(int,int)",
            "int kept(int,int)",
            "int message(int,int)",
            "int vector(int,int)",
            "int count(int)",
            "int astray()"));

    public static void main(String[] args) throws IOException {
        face();
        constants();
        classes();
        words();
        anyArguments();
        CHECKS.end();
    }

    private static void face() {
        CHECKS.due("NONE", SharedShelf.NONE, -1);
        CHECKS.due("the class is public and final", SharedShelf.class.getModifiers(), Modifier.PUBLIC | Modifier.FINAL);
        Set<String> found = new TreeSet<>();
        for (Method m : SharedShelf.class.getDeclaredMethods()) {
            if (!Modifier.isPrivate(m.getModifiers())) {
                found.add(told(m));
                CHECKS.due(m.getName() + " is public and not static", m.getModifiers(), Modifier.PUBLIC);
            }
        }
        CHECKS.due("the methods are those of the document: " + found, found.equals(FACE), true);
        Constructor<?>[] made = SharedShelf.class.getDeclaredConstructors();
        CHECKS.due("constructors", made.length, 1);
        CHECKS.due("its modifiers", made[0].getModifiers(), Modifier.PUBLIC);
        CHECKS.due("its parameter", Arrays.equals(made[0].getParameterTypes(), new Class<?>[] {int.class}), true);
    }

    private static String told(Method m) {
        StringBuilder text = new StringBuilder(m.getReturnType().getSimpleName()).append(' ').append(m.getName());
        text.append(Arrays.toString(m.getParameterTypes()).replace("[", "(").replace("]", ")").replace(" ", ""));
        for (Class<?> thrown : m.getExceptionTypes()) {
            text.append(' ').append(thrown.getSimpleName());
        }
        return text.toString();
    }

    private static void constants() {
        for (Field f : SharedShelf.class.getDeclaredFields()) {
            int modifiers = f.getModifiers();
            boolean isNone = f.getName().equals("NONE");
            CHECKS.due(f.getName() + " is private", Modifier.isPrivate(modifiers), !isNone);
            CHECKS.due(f.getName() + " is final if static", !Modifier.isStatic(modifiers) || Modifier.isFinal(modifiers), true);
        }
    }

    private static void classes() {
        Set<String> names = new HashSet<>();
        for (Method m : SharedShelf.class.getDeclaredMethods()) {
            if (Modifier.isPublic(m.getModifiers())) {
                names.add(m.getName());
            }
        }
        Class<?>[] inside = SharedShelf.class.getDeclaredClasses();
        CHECKS.due("twelve classes at most", inside.length < 12, true);
        for (Class<?> c : inside) {
            CHECKS.due(c + " is static", Modifier.isStatic(c.getModifiers()), true);
            CHECKS.due(c + " is not open", Modifier.isPublic(c.getModifiers()) || Modifier.isProtected(c.getModifiers()), false);
            CHECKS.due(c + " has twenty fields at most", c.getDeclaredFields().length <= 20, true);
            for (Method m : c.getDeclaredMethods()) {
                CHECKS.due(m + " has a name of the face", names.contains(m.getName()), false);
                CHECKS.due(m + " takes seven at most", m.getParameterCount() <= 7, true);
            }
        }
        for (Method m : SharedShelf.class.getDeclaredMethods()) {
            boolean clashes = Modifier.isPrivate(m.getModifiers()) && names.contains(m.getName());
            CHECKS.due(m + " has a name of the face", clashes, false);
        }
    }

    private static void words() throws IOException {
        String text = Files.readString(SOURCE);
        String[] never = {"->", "::", "finally", "synchronized", "assert ", "catch", "Exact(", "package ", "System.nano",
            "System.current", "System.out", "Thread", "Random", "hashCode", "[][][]", "static {", "import "};
        for (String word : never) {
            CHECKS.due("the program has '" + word + "'", text.contains(word), false);
        }
        int length = 0;
        for (String line : text.split("\n")) {
            length = line.startsWith("    }") || line.startsWith("        }") ? 0 : length + 1;
            CHECKS.due("a method of more than sixty lines at: " + line, length > 60, false);
        }
    }

    /** Only what the document says is thrown, whatever the arguments, in states of many kinds. */
    private static void anyArguments() {
        for (int nodes : new int[] {3, 4, 31}) {
            SharedShelf x = new SharedShelf(nodes);
            tryAll(x, nodes);
            for (int k = 0; k < nodes; k++) {
                x.update(k, k % 4, k, k);
                x.calm(k);
            }
            tryAll(x, nodes);
            x.calm(900);
            x.crash(nodes - 1);
            tryAll(x, nodes);
            x.calm(2000);
            tryAll(x, nodes);
        }
    }

    private static void tryAll(SharedShelf x, int nodes) {
        int[] some = {Integer.MIN_VALUE, Integer.MIN_VALUE + 1, -2001, -2, -1, 0, 1, 2, 3, 4, 5, 9, 10, 15, 16, 30, 31, 32,
            510, 511, 512, 1999, 2000, 2001, Integer.MAX_VALUE - 1, Integer.MAX_VALUE};
        for (int p : some) {
            x.count(p);
            x.answer(p);
            for (int q : some) {
                x.told(p, q);
                x.view(p, q);
                x.node(p, q);
                x.kept(p, q);
                x.message(p, q);
                x.vector(p, q);
                wrongBegins(x, nodes, p, q);
            }
            if (p < 0 || p >= x.count(2)) {
                CHECKS.dueThrow("deliver(" + p + ")", IndexOutOfBoundsException.class, () -> x.deliver(p));
            }
            if (p < 0 || p > 2000) {
                CHECKS.dueThrow("calm(" + p + ")", IllegalArgumentException.class, () -> x.calm(p));
            }
            if (p < 0 || p >= nodes) {
                CHECKS.dueThrow("crash(" + p + ")", IndexOutOfBoundsException.class, () -> x.crash(p) ? 1 : 0);
            }
        }
        CHECKS.due("astray()", x.astray(), 0);
    }

    private static void wrongBegins(SharedShelf x, int nodes, int p, int q) {
        if (p < 0 || p >= nodes) {
            CHECKS.dueThrow("update(" + p + ", " + q, IndexOutOfBoundsException.class, () -> x.update(p, q, p, q));
            CHECKS.dueThrow("query(" + p + ", " + q, IndexOutOfBoundsException.class, () -> x.query(p, q, p));
            return;
        }
        if (q < 0 || q > 3) {
            CHECKS.dueThrow("update(" + p + ", " + q, IllegalArgumentException.class, () -> x.update(p, q, p, q));
        }
        if (q < 10 || q > 15) {
            CHECKS.dueThrow("query(" + p + ", " + q, IllegalArgumentException.class, () -> x.query(p, q, p));
        }
    }
}
