import java.lang.reflect.Method;
import java.util.Arrays;
import java.util.HashMap;
import java.util.Map;

/** Calls by their names, so that the class and the model can be asked the same. */
final class Calls {
    private static final Map<String, Method> METHODS = new HashMap<>();

    private Calls() { }

    static long call(Object on, String name, int... numbers) {
        try {
            Object[] arguments = Arrays.stream(numbers).boxed().toArray();
            return ((Number) method(on.getClass(), name, numbers.length).invoke(on, arguments)).longValue();
        } catch (ReflectiveOperationException wrong) {
            throw new IllegalStateException(told(name, numbers), wrong);
        }
    }

    private static Method method(Class<?> of, String name, int count) throws NoSuchMethodException {
        String key = of.getName() + " " + name + " " + count;
        Method found = METHODS.get(key);
        if (found == null) {
            Class<?>[] types = new Class<?>[count];
            Arrays.fill(types, int.class);
            found = of.getDeclaredMethod(name, types);
            METHODS.put(key, found);
        }
        return found;
    }

    static String told(String name, int... numbers) {
        return name + Arrays.toString(numbers);
    }
}
