import java.lang.reflect.InvocationTargetException;
import java.lang.reflect.Method;
import java.util.HashMap;
import java.util.Map;
import java.util.StringJoiner;

/** A call of the face as data: a name and numbers; a boolean counts 1 or 0, as an argument and as an answer. */
final class FaceCall {
    static final String NO_SUCH = "throws.IndexOutOfBoundsException";
    static final String NOT_AS_TOLD = "throws.IllegalArgumentException";
    static final String NOT_NOW = "throws.IllegalStateException";

    private static final Map<String, Method> METHODS = new HashMap<>();

    private final String name;
    private final long[] with;

    FaceCall(String name, long... with) {
        this.name = name;
        this.with = with.clone();
    }

    /** The answer as text, or "throws." and the very class of the exception. */
    String on(Object target) {
        Method method = METHODS.computeIfAbsent(target.getClass().getName() + "." + name, key -> methodOf(target));
        Object[] arguments = new Object[with.length];
        for (int i = 0; i < with.length; i++) {
            arguments[i] = argument(method.getParameterTypes()[i], with[i]);
        }
        try {
            Object answer = method.invoke(target, arguments);
            return answer instanceof Boolean is ? (is ? "1" : "0") : answer.toString();
        } catch (InvocationTargetException thrown) {
            return "throws." + thrown.getCause().getClass().getSimpleName();
        } catch (IllegalAccessException closed) {
            throw new AssertionError(closed);
        }
    }

    private static Object argument(Class<?> type, long number) {
        if (type == boolean.class) {
            return number == 1;
        }
        if (type == long.class) {
            return number;
        }
        return (int) number;
    }

    private Method methodOf(Object target) {
        for (Method method : target.getClass().getDeclaredMethods()) {
            if (method.getName().equals(name) && method.getParameterCount() == with.length) {
                return method;
            }
        }
        throw new AssertionError("no method " + name);
    }

    @Override
    public String toString() {
        StringJoiner text = new StringJoiner(", ", name + "(", ")");
        for (long number : with) {
            text.add(Long.toString(number));
        }
        return text.toString();
    }
}
