import java.lang.reflect.InvocationTargetException;
import java.lang.reflect.Method;
import java.util.HashMap;
import java.util.Map;

/** Makes calls that are told as texts, such as "chord(0, 48, 5)" or "put('48/6')", on one new object. */
final class Caller {
    /** What an object answers after so many calls is free. */
    static final int MOST_CALLS = 512;

    private static final Map<String, Method> METHODS = methods();
    private static final Map<String, Integer> NAMED = Map.of("NO_SUCH", -1, "BAD_VALUE", -2, "BAD_TEXT", -3, "TOO_MANY", -4,
        "NOT_POSSIBLE", -5, "NONE", -6);

    private final FiguredBasses x = new FiguredBasses();
    private int calls = 0;

    private static Map<String, Method> methods() {
        Map<String, Method> methods = new HashMap<>();
        for (Method method : FiguredBasses.class.getMethods()) {
            if (method.getDeclaringClass() == FiguredBasses.class) {
                methods.put(method.getName(), method);
            }
        }
        return methods;
    }

    static String nameOf(String call) {
        return call.substring(0, call.indexOf('('));
    }

    int call(String call) {
        calls++;
        if (calls > MOST_CALLS) {
            throw new IllegalStateException("more than 512 calls on one object");
        }
        Method method = METHODS.get(nameOf(call));
        if (method == null) {
            throw new IllegalArgumentException("no such method: " + call);
        }
        try {
            return (Integer) method.invoke(x, arguments(call, method));
        } catch (IllegalAccessException | InvocationTargetException wrong) {
            throw new IllegalStateException(call, wrong);
        }
    }

    private static Object[] arguments(String call, Method method) {
        String inside = call.substring(call.indexOf('(') + 1, call.length() - 1);
        if (inside.startsWith("'")) {
            return new Object[] {packed(inside.substring(1, inside.length() - 1))};
        }
        String[] told = inside.isEmpty() ? new String[0] : inside.split(", ");
        Object[] arguments = new Object[told.length];
        for (int i = 0; i < told.length; i++) {
            if (method.getParameterTypes()[i] == long.class) {
                arguments[i] = Long.decode(told[i].replace("L", ""));
            } else {
                arguments[i] = Integer.parseInt(told[i]);
            }
        }
        return arguments;
    }

    /** An answer that is told by its name or as a number. */
    static int answer(String told) {
        return NAMED.containsKey(told) ? NAMED.get(told) : Integer.parseInt(told);
    }

    /** The number by which put() takes these characters. */
    static long packed(String text) {
        long characters = 0;
        for (char character : text.toCharArray()) {
            characters = characters << 8 | character;
        }
        return characters;
    }
}
