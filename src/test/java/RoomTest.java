import com.sun.management.ThreadMXBean;
import java.lang.management.ManagementFactory;
import java.lang.reflect.Array;
import java.lang.reflect.Field;
import java.lang.reflect.Modifier;
import java.util.ArrayDeque;
import java.util.Collections;
import java.util.Deque;
import java.util.IdentityHashMap;
import java.util.Set;

/**
 * All calls of one run live in one room of 600,000 objects and arrays, 7.3 million fields and elements: what an
 * object is made of, and what 512 calls of the dearest kind make besides.
 */
public final class RoomTest {
    private static final Due DUE = new Due();
    private static final int OBJECTS_MOST = 600000;
    private static final int ELEMENTS_MOST = 7300000;
    private static final int CALLS = 512;

    private static int objects;
    private static int elements;

    public static void main(String[] args) throws IllegalAccessException {
        anObjectAfterItsCallsIsNotMoreThanBefore();
        dearCallsMakeFewObjects();
        DUE.end();
    }

    private static SequenceFrames withFullContent() {
        SequenceFrames x = new SequenceFrames();
        x.mix(1, 70000);
        x.again(65535, 70000);
        return x;
    }

    private static void packAndRead(SequenceFrames x, int calls) {
        for (int i = 0; i < calls; i += 4) {
            x.option(5, i % 8 == 0 ? 65536 : 40);
            x.pack();
            x.read();
            x.cut(0);
        }
    }

    private static void anObjectAfterItsCallsIsNotMoreThanBefore() throws IllegalAccessException {
        SequenceFrames x = withFullContent();
        countAllOf(x);
        int objectsBefore = objects;
        int elementsBefore = elements;
        packAndRead(x, CALLS - 4);
        countAllOf(x);
        DUE.is("objects after the calls", objects, objectsBefore);
        DUE.is("elements after the calls", elements, elementsBefore);
        DUE.holds(elements + " elements are not a fifth of the room", elements < ELEMENTS_MOST / 5);
    }

    /** By bytes that this thread has taken: an object has 16 at least, and a field or an element 1. */
    private static void dearCallsMakeFewObjects() {
        SequenceFrames x = withFullContent();
        ThreadMXBean thread = (ThreadMXBean) ManagementFactory.getThreadMXBean();
        long before = thread.getCurrentThreadAllocatedBytes();
        packAndRead(x, CALLS - 4);
        long bytes = thread.getCurrentThreadAllocatedBytes() - before;
        DUE.holds(bytes + " bytes are few objects", bytes / 16 < OBJECTS_MOST / 20);
        DUE.holds(bytes + " bytes are few elements", bytes < ELEMENTS_MOST / 20);
    }

    private static void countAllOf(Object first) throws IllegalAccessException {
        objects = 0;
        elements = 0;
        Set<Object> seen = Collections.newSetFromMap(new IdentityHashMap<>());
        Deque<Object> left = new ArrayDeque<>();
        left.add(first);
        while (!left.isEmpty()) {
            Object next = left.remove();
            if (!seen.add(next)) {
                continue;
            }
            objects++;
            if (next.getClass().isArray()) {
                elements += Array.getLength(next);
                continue;
            }
            for (Field f : next.getClass().getDeclaredFields()) {
                if (Modifier.isStatic(f.getModifiers())) {
                    continue;
                }
                elements++;
                f.setAccessible(true);
                if (!f.getType().isPrimitive() && f.get(next) != null) {
                    left.add(f.get(next));
                }
            }
        }
    }
}
