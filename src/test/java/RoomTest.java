import com.sun.management.ThreadMXBean;
import java.lang.management.ManagementFactory;
import java.lang.reflect.Array;
import java.lang.reflect.Field;
import java.lang.reflect.Modifier;
import java.util.ArrayDeque;
import java.util.Collections;
import java.util.Deque;
import java.util.IdentityHashMap;
import java.util.Set;

/** All calls of a run live in one room: an object is small, grows by no call, and no call makes anything. */
public final class RoomTest extends Checks {
    /** There is room for some 600000 objects and 7300000 fields and elements; more than a thousand books fit in it. */
    private static final int MOST_OBJECTS = 500;
    private static final int MOST_CELLS = 5000;
    /** The first calls of a kind load classes, which may make something. */
    private static final int FEW_BYTES = 4096;

    private static long objects;
    private static long cells;

    public static void main(String[] args) throws Exception {
        PaidDebts x = new PaidDebts();
        measure(x);
        long objectsAtFirst = objects;
        long cellsAtFirst = cells;
        due("a new object has few objects: " + objects, objects <= MOST_OBJECTS ? 1 : 0, 1);
        due("a new object has few fields and elements: " + cells, cells <= MOST_CELLS ? 1 : 0, 1);
        ThreadMXBean bean = (ThreadMXBean) ManagementFactory.getThreadMXBean();
        long self = Thread.currentThread().getId();
        all(new PaidDebts());
        long before = bean.getThreadAllocatedBytes(self);
        int calls = all(x);
        long made = bean.getThreadAllocatedBytes(self) - before;
        due("calls of this run", calls, 512);
        due("512 calls made " + made + " bytes", made <= FEW_BYTES ? 1 : 0, 1);
        measure(x);
        due("objects behind 512 calls", objects, objectsAtFirst);
        due("fields and elements behind 512 calls", cells, cellsAtFirst);
        end("there is room for all calls");
    }

    private static void measure(Object root) throws Exception {
        objects = 0;
        cells = 0;
        Set<Object> seen = Collections.newSetFromMap(new IdentityHashMap<>());
        Deque<Object> open = new ArrayDeque<>();
        reach(root, seen, open);
        while (!open.isEmpty()) {
            Object next = open.pop();
            objects++;
            if (next.getClass().isArray()) {
                cells += Array.getLength(next);
                for (int i = 0; i < Array.getLength(next); i++) {
                    reach(Array.get(next, i), seen, open);
                }
                continue;
            }
            for (Field field : next.getClass().getDeclaredFields()) {
                if (!Modifier.isStatic(field.getModifiers())) {
                    cells++;
                    field.setAccessible(true);
                    reach(field.get(next), seen, open);
                }
            }
        }
    }

    /** Numbers stand in their fields: they are no objects of the class. */
    private static void reach(Object found, Set<Object> seen, Deque<Object> open) {
        if (found != null && !(found instanceof Number) && !(found instanceof Boolean) && seen.add(found)) {
            open.push(found);
        }
    }

    /** Fills a book, and then asks everything of it, the dearest questions most: how many calls these were. */
    private static int all(PaidDebts x) {
        int calls = 0;
        for (int d = 0; d < 8; d++) {
            x.debt(9999, d, d, 99);
            x.set(d, 0, 1);
            calls += 2;
        }
        x.sheet(0, 2, 24);
        x.sheet(3, 1, 24);
        for (int i = 0; i < 12; i++) {
            x.item(0, 2, 2 * i, 20 * i);
            x.item(0, 2, 2 * i + 1, 9999);
            calls += 2;
        }
        x.pays(0, 2, 0, 12);
        x.word(0, 0, 7);
        x.word(0, 1, 6);
        x.move(0, 5);
        x.type(0x637870L, 3);
        x.law(0);
        x.type(0x74736cL, 3);
        x.law(1);
        x.image();
        x.drop(3);
        calls += 12;
        while (calls + 20 <= 512) {
            ask(x, calls % 2);
            calls += 20;
        }
        while (calls < 512) {
            x.restore();
            calls++;
        }
        return calls;
    }

    private static void ask(PaidDebts x, int law) {
        x.count(0);
        x.letter(law, 0);
        x.left(law, 7, 299, 2);
        x.owed(law, 299);
        x.put(law, 11, 7, 0);
        x.paid(law, 7);
        x.dead(law, 7, 299);
        x.wakes(law, 7);
        x.free(law, 0);
        x.rank(law, 299, 7);
        x.best(law, 3, 299, 2);
        x.least(law, 3, 299);
        x.answer(law, 0, 299);
        x.hangs(law, 0, 0, 299, 299, 0);
        x.plan(law, 9999, 0, 1, 0);
        x.parts();
        x.gap(299);
        x.judge(law, 299, 0, 2, 0);
        x.pay(0, 1);
        x.restore();
    }
}
