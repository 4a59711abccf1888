import java.lang.management.ManagementFactory;
import java.lang.reflect.Array;
import java.lang.reflect.Field;
import java.lang.reflect.Modifier;
import java.util.ArrayDeque;
import java.util.Collections;
import java.util.Deque;
import java.util.IdentityHashMap;
import java.util.Set;

/**
 * All calls of a run live in one room of some 600,000 objects and 7.3 million fields and elements:
 * a yard takes little of it, and what it takes it takes in the constructor.
 */
public final class RoomTest {
    private static final Check CHECK = new Check("RoomTest");
    private static final int MOST_OBJECTS = 100;
    private static final int MOST_ELEMENTS = 10_000;

    private int objects;
    private int elements;

    public static void main(String[] args) throws IllegalAccessException {
        aYardIsSmall();
        noCallMakesAnObject();
        CHECK.end();
    }

    private static void aYardIsSmall() throws IllegalAccessException {
        RailYard yard = new RailYard(8, 6);
        RoomTest fresh = new RoomTest();
        fresh.count(yard);
        CHECK.due("objects of a new yard", fresh.objects <= MOST_OBJECTS, true);
        CHECK.due("fields and elements of a new yard", fresh.elements <= MOST_ELEMENTS, true);
        useIt(yard);
        RoomTest used = new RoomTest();
        used.count(yard);
        CHECK.due("objects of a used yard", used.objects, fresh.objects);
        CHECK.due("fields and elements of a used yard", used.elements, fresh.elements);
    }

    /**
     * The least of some rounds, since a first one may load classes; of few, since the virtual
     * machine leaves out objects of code that it has come to know well.
     */
    private static void noCallMakesAnObject() {
        int rounds = 4;
        RailYard[] yards = new RailYard[rounds];
        for (int i = 0; i < rounds; i++) {
            yards[i] = new RailYard(8, 6);
        }
        long least = Long.MAX_VALUE;
        for (RailYard yard : yards) {
            long before = madeBytes();
            long asking = madeBytes() - before;
            before = madeBytes();
            useIt(yard);
            least = Math.min(least, madeBytes() - before - asking);
        }
        CHECK.due("bytes of the objects that a run of calls makes", least, 0);
    }

    private static long madeBytes() {
        com.sun.management.ThreadMXBean threads =
            (com.sun.management.ThreadMXBean) ManagementFactory.getThreadMXBean();
        return threads.getThreadAllocatedBytes(Thread.currentThread().getId());
    }

    /** Every call of the face, granted and refused; no more than 512. */
    private static void useIt(RailYard yard) {
        Lay.ring(yard, 7, 5);
        yard.signal(7, 2, 1, 2, true);
        yard.station(3, 0, 0, 9);
        yard.station(3, 5, 0, 4);
        yard.station(9, 0, 0, 4);
        for (int t = 0; t < 8; t++) {
            yard.train(7 - t, 0, 0, 1, 1);
            yard.order(t, t % 2);
            yard.order(t, 0);
        }
        yard.save();
        for (int i = 0; i < 12; i++) {
            yard.tick(i);
            yard.reverse(i);
            yard.signal(7, 3, 1, 2, i % 2 == 0);
            yard.track(4, 3, i, true);
            yard.track(4, 3, i, false);
            yard.pieces(i, 0);
            yard.signals(7, 2, i);
            yard.holder(i, 0, 0);
            yard.toGo(3, 0, 0, 1, i);
            yard.toGo(4, 0, 0, 1, i);
            yard.held(i, 0);
            yard.motion(i);
            yard.load(i);
            yard.target(i);
            yard.waiting(i);
            yard.blocked();
        }
        yard.produced();
        yard.delivered();
        yard.clock();
        yard.restore();
        yard.tick(20);
    }

    private void count(Object root) throws IllegalAccessException {
        Set<Object> seen = Collections.newSetFromMap(new IdentityHashMap<>());
        Deque<Object> open = new ArrayDeque<>();
        open.add(root);
        while (!open.isEmpty()) {
            Object one = open.remove();
            if (seen.add(one)) {
                objects++;
                if (one.getClass().isArray()) {
                    countArray(one, open);
                } else {
                    countFields(one, open);
                }
            }
        }
    }

    private void countArray(Object array, Deque<Object> open) {
        elements += Array.getLength(array);
        for (int i = 0; i < Array.getLength(array); i++) {
            if (!array.getClass().getComponentType().isPrimitive() && Array.get(array, i) != null) {
                open.add(Array.get(array, i));
            }
        }
    }

    private void countFields(Object one, Deque<Object> open) throws IllegalAccessException {
        for (Field field : one.getClass().getDeclaredFields()) {
            if (Modifier.isStatic(field.getModifiers())) {
                continue;
            }
            elements++;
            field.setAccessible(true);
            if (!field.getType().isPrimitive() && field.get(one) != null) {
                open.add(field.get(one));
            }
        }
    }
}
