import java.lang.reflect.Constructor;
import java.lang.reflect.Field;
import java.lang.reflect.Method;
import java.lang.reflect.Modifier;
import java.nio.file.Files;
import java.nio.file.Path;
import java.util.Arrays;
import java.util.Set;
import java.util.TreeSet;

/** The public face of the document, and what LANGUAGE.md says that can be looked up plainly. */
public final class FaceTest {
    private static final Checks CHECKS = new Checks("FaceTest");

    private static final String[] FACE = {
        "int node(boolean)", "boolean put(int, int, int)", "boolean link(int, int, int)",
        "boolean insert(int, int, int)", "boolean remove(int, int)", "int kind(int)", "long value(int, int)",
        "int snapshot()", "boolean restore(int)", "boolean same(int, int)", "int diff(int, int)",
        "int merge(int, int, int)", "int conflict(int)", "long operation(int, int)", "int apply(int)",
        "int encode()", "boolean feed(int)", "boolean cut(int)", "int decode()", "int byteAt(int)",
    };

    private static final String[] FORBIDDEN = {
        "->", "::", "synchronized", "assert", "finally", "throw", "try", "catch", "static {", "hashCode", "toString",
        "equals(", "package ", "System.out", "Random", "Thread", "Time", "double", "float", "enum", "record ",
    };

    public static void main(String[] args) throws Exception {
        lookAtMethods();
        lookAtConstants();
        lookAtClasses();
        lookAtSource();
        CHECKS.end();
    }

    private static void lookAtMethods() {
        Set<String> open = new TreeSet<>();
        Set<String> openNames = new TreeSet<>();
        for (Method m : GraphDeltas.class.getDeclaredMethods()) {
            if (!Modifier.isPrivate(m.getModifiers())) {
                String types = Arrays.toString(m.getParameterTypes()).replace("[", "(").replace("]", ")");
                open.add(m.getReturnType() + " " + m.getName() + types);
                openNames.add(m.getName());
                CHECKS.due("public " + m, Modifier.isPublic(m.getModifiers()), true);
                CHECKS.due("not static " + m, Modifier.isStatic(m.getModifiers()), false);
            }
        }
        CHECKS.due("face " + open, open.equals(new TreeSet<>(Arrays.asList(FACE))), true);
        privateNames(GraphDeltas.class, openNames);
        for (Class<?> inside : GraphDeltas.class.getDeclaredClasses()) {
            privateNames(inside, openNames);
        }
        Constructor<?>[] makers = GraphDeltas.class.getDeclaredConstructors();
        CHECKS.due("constructors", makers.length, 1);
        CHECKS.due("constructor", makers[0].getParameterCount() == 0 && Modifier.isPublic(makers[0].getModifiers()), true);
    }

    private static void privateNames(Class<?> c, Set<String> openNames) {
        for (Method m : c.getDeclaredMethods()) {
            boolean ofFace = c == GraphDeltas.class && Modifier.isPublic(m.getModifiers());
            CHECKS.due("name of " + m, !ofFace && openNames.contains(m.getName()), false);
            CHECKS.due("parameters of " + m, m.getParameterCount() <= 7, true);
        }
    }

    private static void lookAtConstants() throws Exception {
        int open = 0;
        for (Field f : GraphDeltas.class.getDeclaredFields()) {
            if (!Modifier.isPrivate(f.getModifiers())) {
                open++;
                CHECKS.due("constant " + f, Modifier.toString(f.getModifiers()).equals("public static final"), true);
            }
        }
        CHECKS.due("constants", open, 5);
        CHECKS.due("BAD", GraphDeltas.class.getField("BAD").getInt(null), -1);
        CHECKS.due("FULL", GraphDeltas.class.getField("FULL").getInt(null), -2);
        CHECKS.due("MISFIT", GraphDeltas.class.getField("MISFIT").getInt(null), -3);
        CHECKS.due("MALFORMED", GraphDeltas.class.getField("MALFORMED").getInt(null), -4);
        CHECKS.due("NONE", GraphDeltas.class.getField("NONE").getLong(null), 1099511627776L);
        CHECKS.due("NONE is a long", GraphDeltas.class.getField("NONE").getType() == long.class, true);
    }

    private static void lookAtClasses() {
        CHECKS.due("final", Modifier.isFinal(GraphDeltas.class.getModifiers()), true);
        Class<?>[] inside = GraphDeltas.class.getDeclaredClasses();
        CHECKS.due("at most twelve classes", inside.length < 12, true);
        for (Class<?> c : inside) {
            CHECKS.due("static " + c, Modifier.isStatic(c.getModifiers()), true);
            CHECKS.due("hidden " + c, Modifier.isPublic(c.getModifiers()) || Modifier.isProtected(c.getModifiers()), false);
            for (Field f : c.getDeclaredFields()) {
                int m = f.getModifiers();
                CHECKS.due("static state " + f, Modifier.isStatic(m) && !Modifier.isFinal(m), false);
            }
        }
    }

    private static void lookAtSource() throws Exception {
        String source = Files.readString(Path.of("src/main/java/GraphDeltas.java"));
        String code = source.replaceAll("(?s)/\\*.*?\\*/", "").replaceAll("//[^\n]*", "");
        for (String word : FORBIDDEN) {
            CHECKS.due("forbidden: " + word, code.contains(word), false);
        }
        for (String line : code.split("\n")) {
            boolean other = line.startsWith("import ") && !line.equals("import java.util.Arrays;");
            CHECKS.due("import: " + line, other, false);
        }
    }
}
