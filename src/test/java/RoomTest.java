import java.lang.management.ManagementFactory;
import java.lang.reflect.Array;
import java.lang.reflect.Field;
import java.lang.reflect.Modifier;
import java.util.ArrayDeque;
import java.util.Collections;
import java.util.Deque;
import java.util.IdentityHashMap;
import java.util.Set;

/** All calls of a run live in one room: an object is small, and its calls make nothing new. */
final class RoomTest {
    private static final int MOST_OBJECTS = 1000, MOST_ELEMENTS = 10000;
    private static final int CALLS = 512;
    /** Far less than one small object a call. */
    private static final long MOST_BYTES = CALLS * 4L;

    private static int objects;
    private static int elements;

    public static void main(String[] args) throws Exception {
        MeshParents x = Check.withMesh("M0g0g1g2rrrl10l21k03001k14001k25001k34001k45001k56001k67001k70001k23999");
        Check.test("the size of an object");
        measure(x);
        System.out.println("an object has " + objects + " objects and " + elements + " fields and elements");
        Check.holds(objects + " objects", objects <= MOST_OBJECTS);
        Check.holds(elements + " fields and elements", elements <= MOST_ELEMENTS);
        Check.test("what the calls make");
        com.sun.management.ThreadMXBean threads = (com.sun.management.ThreadMXBean) ManagementFactory.getThreadMXBean();
        long own = Thread.currentThread().getId();
        callEach(x, 3);
        threads.getThreadAllocatedBytes(own);
        long before = threads.getThreadAllocatedBytes(own);
        callEach(x, CALLS);
        long made = threads.getThreadAllocatedBytes(own) - before;
        Check.holds(made + " bytes made by the calls", made < MOST_BYTES);
        int was = objects;
        measure(x);
        Check.due("objects after the calls", objects, was);
        Check.end();
    }

    private static void callEach(MeshParents x, int times) {
        for (int i = 0; i < times; i++) {
            x.fault();
            x.mesh();
            x.round(i % 99 + 1);
            x.turn(i % 9);
            x.lose(i % 9, true, i % 10);
            x.offset(i % 3, i % 10);
            x.margin(i % 10);
            x.undo();
            x.about(7);
            x.node(i % 8, 8);
            x.link(i % 9, 5);
            x.price(0, 3);
            x.safe(0, 3);
            x.ahead(99, 5, 9);
            x.still();
            x.word(6);
            x.even(i % 3);
            x.judge(3, 199001990019900L);
            x.see(3, 20, 1);
            x.which();
            x.unsee();
            x.share(i % 3, true);
            if (i % 64 == 0) {
                x.chance(5, true);
            }
            x.seed(i);
            x.drawn(20);
            x.keep(i % 2);
            x.again(i % 2);
        }
    }

    private static void measure(Object start) throws IllegalAccessException {
        objects = 0;
        elements = 0;
        Set<Object> seen = Collections.newSetFromMap(new IdentityHashMap<>());
        Deque<Object> open = new ArrayDeque<>();
        open.add(start);
        while (!open.isEmpty()) {
            Object one = open.remove();
            if (seen.add(one)) {
                objects++;
                addParts(one, open);
            }
        }
    }

    private static void addParts(Object one, Deque<Object> open) throws IllegalAccessException {
        if (one.getClass().isArray()) {
            elements += Array.getLength(one);
            for (int i = 0; i < Array.getLength(one) && !one.getClass().getComponentType().isPrimitive(); i++) {
                add(Array.get(one, i), open);
            }
            return;
        }
        for (Field field : one.getClass().getDeclaredFields()) {
            if (!Modifier.isStatic(field.getModifiers())) {
                elements++;
                field.setAccessible(true);
                if (!field.getType().isPrimitive()) {
                    add(field.get(one), open);
                }
            }
        }
    }

    private static void add(Object part, Deque<Object> open) {
        if (part != null) {
            open.add(part);
        }
    }
}
