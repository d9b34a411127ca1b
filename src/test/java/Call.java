import java.lang.reflect.InvocationTargetException;
import java.lang.reflect.Method;
import java.util.Arrays;
import java.util.HashMap;
import java.util.List;
import java.util.Map;
import java.util.regex.MatchResult;
import java.util.regex.Pattern;

/** A call as data, so that it can be named, changed, and made on the class and on NaiveTraceback. */
record Call(String method, int... arguments) {
    private static final Map<String, Method> OF_CLASS = byName(PacketTraceback.class);
    private static final Map<String, Method> OF_NAIVE = byName(NaiveTraceback.class);

    private static Map<String, Method> byName(Class<?> type) {
        Map<String, Method> methods = new HashMap<>();
        for (Method method : type.getDeclaredMethods()) {
            methods.put(method.getName(), method);
        }
        return methods;
    }

    /** A call with the answer that is due. */
    record Answered(Call call, int answer) {
        private static final Pattern FORM = Pattern.compile("(\\w+)\\(([-\\d, ]*)\\) = (-?\\d+)");

        /** The calls with their answers as a text has them: "depth(1) = 1". */
        static List<Answered> in(String text) {
            return FORM.matcher(text).results().map(Answered::read).toList();
        }

        private static Answered read(MatchResult found) {
            String list = found.group(2).strip();
            int[] values = list.isEmpty() ? new int[0]
                    : Arrays.stream(list.split(", *")).mapToInt(Integer::parseInt).toArray();
            return new Answered(new Call(found.group(1), values), Integer.parseInt(found.group(3)));
        }
    }

    /** The same call with one argument changed. */
    Call with(int index, int value) {
        int[] changed = arguments.clone();
        changed[index] = value;
        return new Call(method, changed);
    }

    String text() {
        String list = Arrays.toString(arguments);
        return method + "(" + list.substring(1, list.length() - 1) + ")";
    }

    int on(PacketTraceback x) {
        return invoke(OF_CLASS.get(method), x);
    }

    int on(NaiveTraceback x) {
        return invoke(OF_NAIVE.get(method), x);
    }

    private int invoke(Method found, Object x) {
        try {
            return (int) found.invoke(x, Arrays.stream(arguments).boxed().toArray());
        } catch (InvocationTargetException | IllegalAccessException e) {
            throw new IllegalStateException(text() + " failed", e);
        }
    }
}
