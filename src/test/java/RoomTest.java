import java.lang.management.ManagementFactory;
import java.lang.reflect.Array;
import java.lang.reflect.Field;
import java.lang.reflect.Modifier;
import java.util.IdentityHashMap;
import java.util.Map;

/** What a run makes stays far below the room: all rows are made with the object, calls make none. */
public final class RoomTest {
    private static final int MOST_ELEMENTS = 1_000_000;
    private static final int MOST_OBJECTS = 100;

    private static long elements = 0;

    private RoomTest() {
    }

    private static void count(Object at, Map<Object, Boolean> seen) throws IllegalAccessException {
        if (at == null || seen.put(at, true) != null) {
            return;
        }
        Class<?> kind = at.getClass();
        if (kind.isArray()) {
            elements += Array.getLength(at);
            for (int i = 0; i < Array.getLength(at) && !kind.getComponentType().isPrimitive(); i++) {
                count(Array.get(at, i), seen);
            }
            return;
        }
        for (Field field : kind.getDeclaredFields()) {
            if (!Modifier.isStatic(field.getModifiers())) {
                elements++;
                field.setAccessible(true);
                if (!field.getType().isPrimitive()) {
                    count(field.get(at), seen);
                }
            }
        }
    }

    /** 512 calls of every kind that are as dear as they can be. */
    private static int run(KeyStore x) {
        int calls = 0;
        x.begin();
        x.tree();
        x.fill(true, 8440, 1);
        x.fill(false, 8448, 2);
        for (calls = 4; calls < 490; calls += 18) {
            x.key(calls, 2);
            x.put(0);
            x.mark();
            x.put(0);
            x.seek(0, false);
            x.take();
            x.found(1, 8);
            x.check();
            x.back(1);
            x.told(4);
            x.drop(0);
            x.keep(1);
            x.commit();
            x.reopen();
            x.begin();
            x.tree();
            x.fill(true, 8440, 1);
            x.fill(false, 8448, calls);
            if (x.told(3) > 1) {
                x.rollback();
                x.begin();
            }
        }
        return calls;
    }

    public static void main(String[] args) throws IllegalAccessException {
        KeyStore x = new KeyStore();
        Map<Object, Boolean> seen = new IdentityHashMap<>();
        count(x, seen);
        Expect.yes("elements and fields: " + elements, elements <= MOST_ELEMENTS);
        Expect.yes("objects: " + seen.size(), seen.size() <= MOST_OBJECTS);
        com.sun.management.ThreadMXBean threads = (com.sun.management.ThreadMXBean) ManagementFactory.getThreadMXBean();
        run(new KeyStore());
        threads.getCurrentThreadAllocatedBytes();
        long before = threads.getCurrentThreadAllocatedBytes();
        int calls = run(x);
        long made = threads.getCurrentThreadAllocatedBytes() - before;
        Expect.yes("bytes made by " + calls + " calls: " + made, made < 4096);
        System.out.println("RoomTest: " + elements + " elements, " + seen.size() + " objects, " + made + " bytes made by calls");
        Expect.end("RoomTest");
    }
}
