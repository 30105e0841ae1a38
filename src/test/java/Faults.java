import java.lang.reflect.Array;
import java.lang.reflect.Field;

/** Plants faults in an object that no call makes, past the face, by the names of its private fields. */
final class Faults {
    private Faults() {
    }

    /** Sets the value that one of a bench's rows of values has for an item. */
    static void set(Splityard yard, int bench, String field, int item, int value)
            throws ReflectiveOperationException {
        Object target = Array.get(read(yard, "benches"), bench);
        Object values = read(target, field);
        if (values instanceof long[]) {
            Array.setLong(values, item, value);
        } else {
            Array.setInt(values, item, value);
        }
    }

    private static Object read(Object object, String name) throws ReflectiveOperationException {
        Field field = object.getClass().getDeclaredField(name);
        field.setAccessible(true);
        return field.get(object);
    }
}
