import java.lang.reflect.InvocationTargetException;
import java.lang.reflect.Method;
import java.lang.reflect.Modifier;
import java.util.HashMap;
import java.util.Map;

/** A new object that is called by texts such as "row(0, 2, 3)"; no more often than may be. */
final class Calls {
    /** How often an object may be called; what it answers later is free. */
    static final int MOST = 512;

    private static final Map<String, Method> METHODS = new HashMap<>();

    static {
        for (Method m : ThunderIsThePost.class.getDeclaredMethods()) {
            if (Modifier.isPublic(m.getModifiers())) {
                METHODS.put(m.getName(), m);
            }
        }
    }

    private final ThunderIsThePost post = new ThunderIsThePost();
    private int made;

    int made() {
        return made;
    }

    long answer(String call) {
        int open = call.indexOf('(');
        int close = call.indexOf(')');
        String name = open < 0 ? call : call.substring(0, open).trim();
        Method method = METHODS.get(name);
        if (method == null || close != call.length() - 1) {
            throw new IllegalArgumentException("no call: " + call);
        }
        String inside = call.substring(open + 1, close).trim();
        String[] texts = inside.isEmpty() ? new String[0] : inside.split(",");
        Class<?>[] types = method.getParameterTypes();
        if (texts.length != types.length) {
            throw new IllegalArgumentException("not so many numbers: " + call);
        }
        Object[] numbers = new Object[texts.length];
        for (int i = 0; i < texts.length; i++) {
            numbers[i] = number(texts[i].trim(), types[i] == long.class);
        }
        made++;
        if (made > MOST) {
            throw new IllegalStateException("more than " + MOST + " calls: " + call);
        }
        try {
            return ((Number) method.invoke(post, numbers)).longValue();
        } catch (InvocationTargetException e) {
            throw new IllegalStateException(call + " threw", e.getCause());
        } catch (IllegalAccessException e) {
            throw new IllegalStateException(call, e);
        }
    }

    static Object number(String text, boolean isLong) {
        switch (text) {
            case "NONE":
                return isLong ? (Object) (long) ThunderIsThePost.NONE : (Object) ThunderIsThePost.NONE;
            case "MAX":
                return isLong ? (Object) Long.MAX_VALUE : (Object) Integer.MAX_VALUE;
            case "MIN":
                return isLong ? (Object) Long.MIN_VALUE : (Object) Integer.MIN_VALUE;
            default:
                return isLong ? (Object) Long.parseLong(text) : (Object) Integer.parseInt(text);
        }
    }
}
