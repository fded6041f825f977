import java.lang.reflect.InvocationTargetException;
import java.lang.reflect.Method;

/** Calls by name, so that a test can make the same one to several objects. */
final class Calls {
    private Calls() {
    }

    /** The answer of a call with numbers alone; false counts 0, true 1. */
    static long make(Object on, String name, int... numbers) {
        Class<?>[] types = new Class<?>[numbers.length];
        Object[] values = new Object[numbers.length];
        for (int i = 0; i < numbers.length; i++) {
            types[i] = int.class;
            values[i] = numbers[i];
        }
        try {
            Method method = on.getClass().getDeclaredMethod(name, types);
            Object answer = method.invoke(on, values);
            return answer instanceof Boolean b ? (b ? 1 : 0) : ((Number) answer).longValue();
        } catch (InvocationTargetException e) {
            if (e.getCause() instanceof RuntimeException thrown) {
                throw thrown;
            }
            throw new IllegalStateException(e.getCause());
        } catch (ReflectiveOperationException e) {
            throw new IllegalStateException(e);
        }
    }
}
