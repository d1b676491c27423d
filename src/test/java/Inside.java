import java.lang.reflect.Field;

/** Looks into an object and sets what no run of calls leads to. */
final class Inside {
    private Inside() {
    }

    static Object store(TwinVaults x, int h) {
        return ((Object[]) get(x, "stores"))[h];
    }

    static Object get(Object of, String name) {
        try {
            return open(of, name).get(of);
        } catch (ReflectiveOperationException e) {
            throw new AssertionError(e);
        }
    }

    static void set(Object of, String name, int value) {
        try {
            open(of, name).setInt(of, value);
        } catch (ReflectiveOperationException e) {
            throw new AssertionError(e);
        }
    }

    private static Field open(Object of, String name) throws ReflectiveOperationException {
        Field field = of.getClass().getDeclaredField(name);
        field.setAccessible(true);
        return field;
    }
}
