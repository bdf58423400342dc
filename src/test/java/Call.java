import java.lang.reflect.InvocationTargetException;
import java.lang.reflect.Method;
import java.lang.reflect.Modifier;
import java.util.ArrayList;
import java.util.List;
import java.util.Map;
import java.util.TreeMap;

/** A call of the face, told in words such as "leg 0 1 0 0 100 200". */
final class Call {
    private static final Map<String, Method> FACE = new TreeMap<>();

    static {
        for (Method m : LateClaims.class.getDeclaredMethods()) {
            if (Modifier.isPublic(m.getModifiers())) FACE.put(m.getName(), m);
        }
    }

    private final String words;
    private final Method method;
    private final Object[] values;

    private Call(String words, Method method, Object[] values) {
        this.words = words;
        this.method = method;
        this.values = values;
    }

    static List<Method> face() {
        return new ArrayList<>(FACE.values());
    }

    static Call of(String words) {
        String[] parts = words.trim().split(" +");
        Method m = FACE.get(parts[0]);
        if (m == null || parts.length - 1 != m.getParameterCount()) throw new IllegalArgumentException(words);
        Object[] values = new Object[parts.length - 1];
        for (int i = 0; i < values.length; i++) {
            if (m.getParameterTypes()[i] == boolean.class) values[i] = Boolean.valueOf(parts[i + 1]);
            else values[i] = Integer.valueOf(parts[i + 1]);
        }
        return new Call(words.trim(), m, values);
    }

    /** With true as 1, as the Model has it. */
    static Call of(Method m, int[] a) {
        Object[] values = new Object[a.length];
        StringBuilder words = new StringBuilder(m.getName());
        for (int i = 0; i < a.length; i++) {
            if (m.getParameterTypes()[i] == boolean.class) values[i] = a[i] == 1;
            else values[i] = a[i];
            words.append(' ').append(values[i]);
        }
        return new Call(words.toString(), m, values);
    }

    int on(LateClaims x) {
        try {
            return (Integer) method.invoke(x, values);
        } catch (InvocationTargetException e) {
            throw new IllegalStateException(words, e.getCause());
        } catch (IllegalAccessException e) {
            throw new IllegalStateException(e);
        }
    }

    int on(Model model) {
        int[] a = new int[values.length];
        for (int i = 0; i < a.length; i++) {
            if (values[i] instanceof Boolean b) a[i] = b ? 1 : 0;
            else a[i] = (Integer) values[i];
        }
        return model.call(method.getName(), a);
    }

    @Override
    public String toString() {
        return words;
    }
}
