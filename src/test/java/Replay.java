import java.lang.reflect.InvocationTargetException;
import java.lang.reflect.Method;
import java.lang.reflect.Modifier;
import java.util.HashMap;
import java.util.Map;

/** Makes calls on a WellQueue that are told as texts, and looks at what each one answers. */
final class Replay {
    private static final Map<String, Method> FACE = face();
    private final String where;
    private final WellQueue x = new WellQueue();

    Replay(String where) {
        this.where = where;
    }

    private static Map<String, Method> face() {
        Map<String, Method> methods = new HashMap<>();
        for (Method method : WellQueue.class.getDeclaredMethods()) {
            if (Modifier.isPublic(method.getModifiers())) {
                methods.put(method.getName(), method);
            }
        }
        return methods;
    }

    void tell(String text, String due) {
        Check.same(where + ": well of " + text, due, String.valueOf(Wells.tell(x, text)));
    }

    /** The call's name, then its arguments: numbers, true, false. */
    void call(String[] words, String due) throws ReflectiveOperationException {
        Method method = FACE.get(words[0]);
        Class<?>[] types = method.getParameterTypes();
        Object[] arguments = new Object[types.length];
        for (int i = 0; i < types.length; i++) {
            arguments[i] = argument(types[i], words[i + 1]);
        }
        Check.same(where + ": " + String.join(" ", words), due, answer(method, arguments));
    }

    private static Object argument(Class<?> type, String word) {
        if (type == boolean.class) {
            return Boolean.valueOf(word);
        }
        return type == long.class ? (Object) Long.decode(word) : (Object) Integer.decode(word);
    }

    private String answer(Method method, Object[] arguments) throws ReflectiveOperationException {
        try {
            return String.valueOf(method.invoke(x, arguments)).replace("null", "void");
        } catch (InvocationTargetException e) {
            return "throws." + e.getCause().getClass().getSimpleName();
        }
    }
}
