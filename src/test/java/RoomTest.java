import java.lang.management.ManagementFactory;
import java.lang.reflect.Array;
import java.lang.reflect.Field;
import java.lang.reflect.Modifier;
import java.util.IdentityHashMap;
import java.util.Map;

/** All calls of one run live in one room: 600,000 objects and arrays, 7.3 million fields and elements. */
public final class RoomTest {
    private static final Check CHECK = new Check("RoomTest");
    private static final int CALLS = 512;
    private static long sink;

    public static void main(String[] args) throws ReflectiveOperationException {
        LineLearner x = new LineLearner();
        long[] room = roomOf(x);
        System.out.println("RoomTest: a new object takes " + room[0] + " objects, " + room[1] + " fields and elements");
        CHECK.same("objects of a run of constructors", room[0] * CALLS < 600_000, true);
        CHECK.same("elements of a run of constructors", room[1] * CALLS < 7_300_000, true);
        fillUp(x);
        for (int i = 0; i < 3000; i++) {
            dearCalls(x);
        }
        long before = allocated();
        for (int i = 0; i < 1000; i++) {
            dearCalls(x);
        }
        long grown = allocated() - before;
        // The machine itself may take a little; one object a call would be far more.
        CHECK.same("calls make no objects, but made bytes: " + grown, grown < 16_000, true);
        long[] later = roomOf(x);
        CHECK.same("objects later", later[0], room[0]);
        CHECK.same("elements later", later[1], room[1]);
        CHECK.same("it ran", sink != 0, true);
        CHECK.finish();
    }

    private static void fillUp(LineLearner x) {
        for (int line = 0; line < 12; line++) {
            for (int i = 0; i < 10; i++) {
                x.feed(Texts.packed("a" + (line + i) % 10 + (char) ('!' + (line * i) % 14)));
            }
            x.store();
        }
    }

    private static void dearCalls(LineLearner x) {
        for (int line = 0; line < 12; line++) {
            if (x.costWith(line) < 70 && !x.isMerged(line)) {
                sink += x.merge(line);
            }
            sink += x.fits(line) ? 1 : 0;
        }
        for (int slot = 0; slot < x.slotCount(); slot++) {
            sink += x.distinct(slot) + (x.isRising(slot) ? 1 : 0) + x.numberAt(0, slot);
        }
        sink += x.bits() + (long) x.saving() + x.strangest() + x.group(60) + x.group(0) + x.digest();
        sink += x.clear() + (x.setCosts(2, 3, 4) ? 1 : 0);
    }

    private static long allocated() {
        com.sun.management.ThreadMXBean threads =
                (com.sun.management.ThreadMXBean) ManagementFactory.getThreadMXBean();
        return threads.getThreadAllocatedBytes(Thread.currentThread().getId());
    }

    /** The objects and arrays, and the fields and elements, that can be reached. */
    private static long[] roomOf(Object from) throws ReflectiveOperationException {
        Map<Object, Boolean> seen = new IdentityHashMap<>();
        long[] room = new long[2];
        count(from, seen, room);
        return room;
    }

    private static void count(Object one, Map<Object, Boolean> seen, long[] room) throws ReflectiveOperationException {
        if (one == null || seen.put(one, true) != null) {
            return;
        }
        room[0]++;
        if (one.getClass().isArray()) {
            room[1] += Array.getLength(one);
            if (!one.getClass().getComponentType().isPrimitive()) {
                for (Object element : (Object[]) one) {
                    count(element, seen, room);
                }
            }
            return;
        }
        for (Field field : one.getClass().getDeclaredFields()) {
            if (!Modifier.isStatic(field.getModifiers())) {
                room[1]++;
                field.setAccessible(true);
                if (!field.getType().isPrimitive()) {
                    count(field.get(one), seen, room);
                }
            }
        }
    }
}
