import java.lang.reflect.InvocationTargetException;
import java.lang.reflect.Method;
import java.util.Arrays;
import java.util.HashMap;
import java.util.Map;

/** A call by its name, so that a case says it once and it can be made on more than one object. */
final class Call {
    private static final Map<String, Method> FACE = new HashMap<>();

    static {
        for (Method method : CheeseValleys.class.getDeclaredMethods()) {
            FACE.put(method.getName(), method);
        }
    }

    final String name;
    private final int[] args;

    Call(String name, int... args) {
        this.name = name;
        this.args = args;
    }

    long on(CheeseValleys x) {
        try {
            Object[] boxed = Arrays.stream(args).boxed().toArray();
            return ((Number) FACE.get(name).invoke(x, boxed)).longValue();
        } catch (InvocationTargetException e) {
            throw new IllegalStateException(this + " threw", e.getCause());
        } catch (IllegalAccessException e) {
            throw new IllegalStateException(e);
        }
    }

    @Override
    public String toString() {
        String list = Arrays.toString(args);
        return name + "(" + list.substring(1, list.length() - 1) + ")";
    }
}
