import java.lang.reflect.InvocationTargetException;
import java.lang.reflect.Method;
import java.util.Arrays;
import java.util.HashMap;
import java.util.Map;

/** A call as data, so that it can be named, changed, and made on the class and on NaiveTraceback. */
record Call(String method, int... arguments) {
    private static final Map<String, Method> OF_CLASS = byName(PacketTraceback.class);
    private static final Map<String, Method> OF_NAIVE = byName(NaiveTraceback.class);

    private static Map<String, Method> byName(Class<?> type) {
        Map<String, Method> methods = new HashMap<>();
        for (Method method : type.getDeclaredMethods()) {
            methods.put(method.getName(), method);
        }
        return methods;
    }

    /** The same call with one argument changed. */
    Call with(int index, int value) {
        int[] changed = arguments.clone();
        changed[index] = value;
        return new Call(method, changed);
    }

    String text() {
        String list = Arrays.toString(arguments);
        return method + "(" + list.substring(1, list.length() - 1) + ")";
    }

    int on(PacketTraceback x) {
        return invoke(OF_CLASS.get(method), x);
    }

    int on(NaiveTraceback x) {
        return invoke(OF_NAIVE.get(method), x);
    }

    private int invoke(Method found, Object x) {
        try {
            return (int) found.invoke(x, Arrays.stream(arguments).boxed().toArray());
        } catch (InvocationTargetException | IllegalAccessException e) {
            throw new IllegalStateException(text() + " failed", e);
        }
    }
}
