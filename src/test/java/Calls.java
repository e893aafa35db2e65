import java.lang.reflect.InvocationTargetException;
import java.lang.reflect.Method;
import java.util.HashMap;
import java.util.Map;

/** Calls of methods by their names, on the class and on the model alike. */
final class Calls {
    private static final Map<Class<?>, Map<String, Method>> METHODS = new HashMap<>();

    private Calls() {
    }

    /** The answer as text; throws.X if the call throws an X. */
    static String answer(Object object, String name, Object... given) {
        try {
            Object answer = methodOf(object.getClass(), name).invoke(object, given);
            return answer instanceof String ? "\"" + answer + "\"" : String.valueOf(answer);
        } catch (InvocationTargetException e) {
            return "throws." + e.getCause().getClass().getSimpleName();
        } catch (IllegalAccessException e) {
            throw new IllegalStateException(name, e);
        }
    }

    static Method methodOf(Class<?> type, String name) {
        Method method = METHODS.computeIfAbsent(type, Calls::methodsOf).get(name);
        if (method == null) {
            throw new IllegalArgumentException("no method " + name);
        }
        return method;
    }

    private static Map<String, Method> methodsOf(Class<?> type) {
        Map<String, Method> methods = new HashMap<>();
        for (Method method : type.getDeclaredMethods()) {
            methods.put(method.getName(), method);
        }
        return methods;
    }
}
