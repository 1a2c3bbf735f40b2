import java.lang.management.ManagementFactory;
import java.lang.reflect.Array;
import java.lang.reflect.Field;
import java.lang.reflect.Modifier;
import java.util.IdentityHashMap;
import java.util.Map;

/** All calls of a run live in one room: an object takes little of it, and its calls take none. */
public final class RoomTest extends Checks {
    private static final int CALLS = 200;

    public static void main(String[] args) throws IllegalAccessException {
        roomOfAnObject();
        roomOfCalls();
        end();
    }

    private static void roomOfAnObject() throws IllegalAccessException {
        sentence("some 600,000 objects and arrays, 7.3 million fields and elements in all");
        PackingSearch fresh = new PackingSearch(8, 8, 8);
        PackingSearch used = usedOne();
        Map<Object, Integer> ofFresh = new IdentityHashMap<>();
        Map<Object, Integer> ofUsed = new IdentityHashMap<>();
        gather(fresh, ofFresh);
        gather(used, ofUsed);
        yes("a new object has few objects", () -> ofFresh.size() < 40);
        yes("with few fields and elements", () -> sum(ofFresh) < 300);
        due("a used one has no more of them", ofFresh.size(), () -> ofUsed.size());
        due("nor of these", sum(ofFresh), () -> sum(ofUsed));
    }

    private static PackingSearch usedOne() {
        PackingSearch x = new PackingSearch(8, 8, 8);
        for (int i = 0; i < 6; i++) {
            x.piece(1 + i, 2, 3, 10);
            x.turn(i, 3);
            x.limit(i, 25);
        }
        x.share(50);
        x.solve(3000);
        return x;
    }

    private static int sum(Map<Object, Integer> sizes) {
        int sum = 0;
        for (int size : sizes.values()) {
            sum += size;
        }
        return sum;
    }

    /** Each object or array that can be reached, with the number of its fields or elements. */
    private static void gather(Object from, Map<Object, Integer> sizes) throws IllegalAccessException {
        if (from == null || sizes.containsKey(from)) {
            return;
        }
        if (from.getClass().isArray()) {
            sizes.put(from, Array.getLength(from));
            for (int i = 0; i < Array.getLength(from) && from instanceof Object[]; i++) {
                gather(Array.get(from, i), sizes);
            }
            return;
        }
        int fields = 0;
        sizes.put(from, fields);
        for (Field field : from.getClass().getDeclaredFields()) {
            if (!Modifier.isStatic(field.getModifiers())) {
                fields++;
                field.setAccessible(true);
                if (!field.getType().isPrimitive()) {
                    gather(field.get(from), sizes);
                }
            }
        }
        sizes.put(from, fields);
    }

    /** One object for each call, or for each step, would be far above what the machine takes beside. */
    private static void roomOfCalls() {
        sentence("make rows in constructors and use them again");
        PackingSearch x = usedOne();
        askAll(x);
        com.sun.management.ThreadMXBean threads = (com.sun.management.ThreadMXBean) ManagementFactory.getThreadMXBean();
        long before = threads.getThreadAllocatedBytes(Thread.currentThread().getId());
        for (int call = 0; call < CALLS; call++) {
            askAll(x);
        }
        long taken = threads.getThreadAllocatedBytes(Thread.currentThread().getId()) - before;
        yes("of " + CALLS + " calls of each kind, bytes: " + taken, () -> taken < 16L * CALLS);
    }

    private static void askAll(PackingSearch x) {
        x.turn(0, 3);
        x.limit(0, 25);
        x.rank(0, 0);
        x.share(50);
        x.solve(3000);
        x.exact();
        x.steps();
        x.bound();
        x.at(0, 0);
        x.over(0, 1);
        x.support(0);
        x.bears(0);
        x.cell(0, 0, 0);
        x.box(0);
        x.count(4);
    }
}
