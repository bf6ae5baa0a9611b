import java.lang.reflect.Method;
import java.lang.reflect.Modifier;
import java.util.HashMap;
import java.util.Map;

/** A new object (NineLives, or Oracle) that is called by name; it counts its calls, for beyond 512 nothing is promised. */
final class Called {
    static final int MOST_CALLS = 512;
    private static final Map<Class<?>, Map<String, Method>> FACES = new HashMap<>();

    private final Object port;
    private final Map<String, Method> face;
    private int calls;

    Called(Class<?> type) {
        face = FACES.computeIfAbsent(type, Called::faceOf);
        try {
            port = type.getDeclaredConstructor().newInstance();
        } catch (ReflectiveOperationException e) {
            throw new IllegalStateException(e);
        }
    }

    /** By name and how many numbers it takes: no two calls of the document share both. */
    private static Map<String, Method> faceOf(Class<?> type) {
        Map<String, Method> face = new HashMap<>();
        for (Method m : type.getDeclaredMethods()) {
            if (!Modifier.isPrivate(m.getModifiers()) && !Modifier.isStatic(m.getModifiers())) {
                face.put(m.getName() + m.getParameterCount(), m);
            }
        }
        return face;
    }

    long call(String name, int... numbers) {
        Method method = face.get(name + numbers.length);
        if (method == null) {
            throw new IllegalStateException("there is no call " + name + " of " + numbers.length + " numbers");
        }
        calls++;
        if (calls > MOST_CALLS) {
            throw new IllegalStateException("the test has more than 512 calls of one object");
        }
        Object[] values = new Object[numbers.length];
        for (int i = 0; i < numbers.length; i++) {
            values[i] = numbers[i];
        }
        try {
            return ((Number) method.invoke(port, values)).longValue();
        } catch (ReflectiveOperationException e) {
            throw new IllegalStateException(told(name, numbers) + " threw " + e.getCause(), e);
        }
    }

    static String told(String name, int... numbers) {
        StringBuilder text = new StringBuilder(name).append('(');
        for (int i = 0; i < numbers.length; i++) {
            text.append(i > 0 ? ", " : "").append(numbers[i]);
        }
        return text.append(')').toString();
    }
}
