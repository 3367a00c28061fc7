import com.sun.management.ThreadMXBean;
import java.lang.management.ManagementFactory;
import java.lang.reflect.Array;
import java.lang.reflect.Field;
import java.lang.reflect.Modifier;

/** All calls of a run share one room: an object is small, and no call makes anything. */
public final class RoomTest {
    private static final int ROOM = 7_300_000;
    // So many objects could be made in one run, if each of its calls were a constructor's.
    private static final int OBJECTS = 512;

    // What asking for the number may make itself; one small object a call would be far more.
    private static final int MEASURING = 1024;

    private static final Check CHECK = new Check("RoomTest");

    private static long answers = 0;

    public static void main(String[] args) throws IllegalAccessException {
        int elements = elementsOf(new SevenKeys());
        CHECK.holds("an object has " + elements + " fields and elements", elements <= ROOM / OBJECTS);
        allCalls(new SevenKeys());
        SevenKeys x = new SevenKeys();
        ThreadMXBean threads = (ThreadMXBean) ManagementFactory.getThreadMXBean();
        long before = threads.getCurrentThreadAllocatedBytes();
        for (int i = 0; i < 10; i++) {
            allCalls(x);
        }
        long made = threads.getCurrentThreadAllocatedBytes() - before;
        CHECK.holds(made + " bytes made by calls", made <= MEASURING);
        CHECK.holds("the calls were made", answers != 0);
        CHECK.end();
    }

    private static int elementsOf(Object object) throws IllegalAccessException {
        if (object.getClass().isArray()) {
            return Array.getLength(object);
        }
        int elements = 0;
        for (Field field : object.getClass().getDeclaredFields()) {
            if (!Modifier.isStatic(field.getModifiers())) {
                field.setAccessible(true);
                elements += 1 + (field.getType().isPrimitive() ? 0 : elementsOf(field.get(object)));
            }
        }
        return elements;
    }

    private static void allCalls(SevenKeys x) {
        answers += x.point(1200, 0) + x.key(3, 4) + x.next(5, 6) + x.far(0, 2400) + x.side(0, 9);
        answers += x.patch(700, 2) + x.around(0, 3) + x.ring(0, 20);
        answers += x.put(0, 0, 4, 1) + x.disk(1, 50, 20) + x.join(2, 0, 1, 3) + x.grow(3, 2, -1);
        answers += x.grow(3, 3, 1) + x.has(0, 1) + x.packed(3, 20, 0) + x.packed(3, 20, 1);
        answers += x.piece(2, 2400) + x.way(0, 0, 2400) + x.alike(0, 1) + x.image(0) + x.image(1);
        answers += x.restore(0) + x.count(0) + x.count(1) + x.count(2);
        for (int slot = 0; slot < 4; slot++) {
            for (int what = 0; what <= 6; what++) {
                answers += x.about(slot, what);
            }
        }
        answers += x.point(-1, 0) + x.put(9, 0, 0, 0) + x.restore(7);
    }
}
