import java.lang.reflect.Method;
import java.lang.reflect.Modifier;
import java.util.ArrayList;
import java.util.HashMap;
import java.util.List;
import java.util.Map;

/** A run of calls on a new object, each told as a text such as "put 0 1 MAX", that can be done again. */
final class Run {
    /** The document promises nothing about the calls behind these. */
    static final int PROMISED = 512;

    private static final Map<String, Method> FACE = face();

    private final GraphDeltas object = new GraphDeltas();
    private final List<String> calls = new ArrayList<>();

    private static Map<String, Method> face() {
        Map<String, Method> face = new HashMap<>();
        for (Method m : GraphDeltas.class.getDeclaredMethods()) {
            if (Modifier.isPublic(m.getModifiers())) {
                face.put(m.getName(), m);
            }
        }
        return face;
    }

    int length() {
        return calls.size();
    }

    /** The same calls on another new object. */
    Run again() {
        Run run = new Run();
        for (String call : calls) {
            run.call(call);
        }
        return run;
    }

    Object call(String text) {
        if (calls.size() >= PROMISED) {
            throw new IllegalStateException("a test makes more than " + PROMISED + " calls: " + text);
        }
        return freeCall(text);
    }

    /** A call that may stand behind the promised ones: what it answers is free, but it has to answer. */
    Object freeCall(String text) {
        calls.add(text);
        String[] words = text.split(" ");
        Method method = FACE.get(words[0]);
        Object[] arguments = new Object[words.length - 1];
        for (int k = 0; k < arguments.length; k++) {
            arguments[k] = argument(words[k + 1]);
        }
        try {
            return method.invoke(object, arguments);
        } catch (ReflectiveOperationException e) {
            throw new IllegalStateException(text, e);
        }
    }

    private static Object argument(String word) {
        switch (word) {
            case "true":
                return true;
            case "false":
                return false;
            case "MIN":
                return Integer.MIN_VALUE;
            case "MAX":
                return Integer.MAX_VALUE;
            default:
                return Integer.valueOf(word);
        }
    }
}
