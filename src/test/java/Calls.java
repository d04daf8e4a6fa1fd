import java.lang.reflect.InvocationTargetException;
import java.lang.reflect.Method;
import java.lang.reflect.Modifier;
import java.util.Map;
import java.util.TreeMap;

/** Calls of the public face, told as a name and numbers or as a text: slip(6), write(0, 1, MAX). */
final class Calls {
    private static final Map<String, Method> FACE = face();

    private Calls() {
    }

    private static Map<String, Method> face() {
        Map<String, Method> methods = new TreeMap<>();
        for (Method m : SlipWall.class.getDeclaredMethods()) {
            if (Modifier.isPublic(m.getModifiers())) {
                methods.put(m.getName(), m);
            }
        }
        return methods;
    }

    static Iterable<Method> all() {
        return FACE.values();
    }

    static String name(String call) {
        return call.substring(0, call.indexOf('('));
    }

    /** MIN and MAX are the ends of what an argument of its type can be. */
    static long[] arguments(String call) {
        String inside = call.substring(call.indexOf('(') + 1, call.lastIndexOf(')'));
        Class<?>[] types = method(name(call)).getParameterTypes();
        String[] told = inside.isBlank() ? new String[0] : inside.split(",");
        if (told.length != types.length) {
            throw new IllegalArgumentException(call);
        }
        long[] a = new long[told.length];
        for (int i = 0; i < a.length; i++) {
            boolean isLong = types[i] == long.class;
            a[i] = switch (told[i].trim()) {
                case "MIN" -> isLong ? Long.MIN_VALUE : Integer.MIN_VALUE;
                case "MAX" -> isLong ? Long.MAX_VALUE : Integer.MAX_VALUE;
                default -> isLong ? Long.parseLong(told[i].trim()) : Integer.parseInt(told[i].trim());
            };
        }
        return a;
    }

    static long make(SlipWall x, String name, long... a) {
        Method m = method(name);
        Object[] boxed = new Object[a.length];
        for (int i = 0; i < a.length; i++) {
            boxed[i] = m.getParameterTypes()[i] == long.class ? (Object) a[i] : (Object) (int) a[i];
        }
        try {
            return ((Number) m.invoke(x, boxed)).longValue();
        } catch (IllegalAccessException e) {
            throw new IllegalStateException(e);
        } catch (InvocationTargetException e) {
            throw new IllegalStateException(name + " threw", e.getCause());
        }
    }

    private static Method method(String name) {
        Method m = FACE.get(name);
        if (m == null) {
            throw new IllegalArgumentException("the face has no " + name);
        }
        return m;
    }
}
