import java.lang.reflect.InvocationTargetException;
import java.lang.reflect.Method;
import java.util.HashMap;
import java.util.Map;

/** Runs calls told in lines such as "leg 0 1 0 0 100 200 = 0"; behind '#' stands a word on why. */
final class Script {
    private static final Map<String, Method> FACE = new HashMap<>();

    static {
        for (Method m : LateClaims.class.getMethods()) {
            if (m.getDeclaringClass() == LateClaims.class) FACE.put(m.getName(), m);
        }
    }

    private final Due due;
    private final String title;
    private final LateClaims x = new LateClaims();

    private Script(Due due, String title) {
        this.due = due;
        this.title = title;
    }

    /** A new object, on which the lines are run. */
    static Script of(Due due, String title, String lines) {
        return new Script(due, title).on(lines);
    }

    Script on(String lines) {
        for (String line : lines.split("\n")) {
            String call = line.split("#", 2)[0].trim();
            if (!call.isEmpty()) ask(call);
        }
        return this;
    }

    /** The same line so many times, with the number of the time, from 0 on, for each '@'. */
    Script times(int many, String line) {
        for (int i = 0; i < many; i++) on(line.replace("@", Integer.toString(i)));
        return this;
    }

    private void ask(String line) {
        String[] sides = line.split("=");
        String[] words = sides[0].trim().split(" +");
        Method m = FACE.get(words[0]);
        if (m == null || words.length - 1 != m.getParameterCount() || sides.length != 2) {
            throw new IllegalArgumentException(line);
        }
        Object[] values = new Object[words.length - 1];
        for (int i = 0; i < values.length; i++) {
            if (m.getParameterTypes()[i] == boolean.class) values[i] = Boolean.valueOf(words[i + 1]);
            else values[i] = Integer.valueOf(words[i + 1]);
        }
        try {
            due.is(title + ": " + sides[0].trim(), (Integer) m.invoke(x, values), Integer.parseInt(sides[1].trim()));
        } catch (InvocationTargetException e) {
            throw new IllegalStateException(title + ": " + line, e.getCause());
        } catch (IllegalAccessException e) {
            throw new IllegalStateException(e);
        }
    }
}
