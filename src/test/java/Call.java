import java.lang.reflect.InvocationTargetException;
import java.lang.reflect.Method;
import java.lang.reflect.Modifier;
import java.util.Map;
import java.util.TreeMap;

/** Calls of the face by name: the answer, or which exception that the document names was thrown. */
final class Call {
    static final long THROWS_ARGUMENT = Long.MIN_VALUE;
    static final long THROWS_STATE = Long.MIN_VALUE + 1;

    private static final Map<String, Method> FACE = face();

    private Call() {
    }

    /** The public methods by their names. */
    static Map<String, Method> face() {
        Map<String, Method> face = new TreeMap<>();
        for (Method m : RattleAtFifty.class.getDeclaredMethods()) {
            if (Modifier.isPublic(m.getModifiers())) {
                face.put(m.getName(), m);
            }
        }
        return face;
    }

    /** A call as it is written: "adds(1, 0, 9)". */
    static long on(RattleAtFifty x, String written) {
        int open = written.indexOf('(');
        String inside = written.substring(open + 1, written.length() - 1).trim();
        String[] numbers = inside.isEmpty() ? new String[0] : inside.split(", *");
        int[] a = new int[numbers.length];
        for (int i = 0; i < a.length; i++) {
            a[i] = Integer.parseInt(numbers[i]);
        }
        return on(x, written.substring(0, open), a);
    }

    static long on(RattleAtFifty x, String name, int... a) {
        Object[] boxed = new Object[a.length];
        for (int i = 0; i < a.length; i++) {
            boxed[i] = a[i];
        }
        try {
            return ((Number) FACE.get(name).invoke(x, boxed)).longValue();
        } catch (InvocationTargetException e) {
            return thrown(name, e.getCause());
        } catch (IllegalAccessException e) {
            throw new IllegalStateException(name, e);
        }
    }

    private static long thrown(String name, Throwable cause) {
        if (name.equals("element") && cause.getClass() == IllegalArgumentException.class) {
            return THROWS_ARGUMENT;
        }
        if (name.equals("element") && cause.getClass() == IllegalStateException.class) {
            return THROWS_STATE;
        }
        throw new IllegalStateException(name + " threw", cause);
    }
}
