import java.lang.management.ManagementFactory;
import java.lang.reflect.Array;
import java.lang.reflect.Field;
import java.lang.reflect.Modifier;
import java.util.IdentityHashMap;
import java.util.Map;

/** The room of a run: what an object holds is small, and no call makes anything but its exception. */
public final class RoomTest {
    private static final int CALLS = 512;
    private static final int MOST_OBJECTS = 1000;
    private static final int MOST_ELEMENTS = 10000;
    private static final long MOST_BYTES = 200000;

    private static final Map<Object, Boolean> seen = new IdentityHashMap<>();
    private static long elements = 0;

    public static void main(String[] args) throws IllegalAccessException {
        ElectionTabulator x = full();
        count(x);
        System.out.println(seen.size() + " objects, " + elements + " fields and elements");
        Check.is("few objects", seen.size() <= MOST_OBJECTS ? 1 : 0, 1);
        Check.is("few elements", elements <= MOST_ELEMENTS ? 1 : 0, 1);
        dearestCalls(x);
        long before = bytes();
        dearestCalls(x);
        long made = bytes() - before;
        System.out.println(made + " bytes made by " + 3 * CALLS + " calls");
        Check.is("nothing is made", made <= MOST_BYTES ? 1 : 0, 1);
        Check.end();
    }

    private static ElectionTabulator full() {
        String six = "9:hgfedcba;9:abcdefgh;9:dceabfgh;1:fa;";
        ElectionTabulator x = Check.election(8, 3, six, six, six, six, six, six);
        x.set(0, 3);
        x.set(1, 1);
        x.save();
        return x;
    }

    private static void dearestCalls(ElectionTabulator x) {
        for (int i = 0; i < CALLS; i++) {
            x.needed(i % 8);
            x.set(0, i % 4);
            x.declare();
        }
    }

    private static long bytes() {
        com.sun.management.ThreadMXBean threads =
            (com.sun.management.ThreadMXBean) ManagementFactory.getThreadMXBean();
        return threads.getThreadAllocatedBytes(Thread.currentThread().getId());
    }

    private static void count(Object object) throws IllegalAccessException {
        if (object == null || seen.put(object, true) != null) {
            return;
        }
        Class<?> type = object.getClass();
        if (type.isArray()) {
            int length = Array.getLength(object);
            elements += length;
            for (int i = 0; i < length && !type.getComponentType().isPrimitive(); i++) {
                count(Array.get(object, i));
            }
            return;
        }
        for (Field field : type.getDeclaredFields()) {
            if (!Modifier.isStatic(field.getModifiers())) {
                elements++;
                field.setAccessible(true);
                if (!field.getType().isPrimitive()) {
                    count(field.get(object));
                }
            }
        }
    }
}
