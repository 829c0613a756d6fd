import java.lang.reflect.Array;
import java.lang.reflect.Field;
import java.lang.reflect.Modifier;
import java.util.IdentityHashMap;

/** What an object holds is little, and no call makes it more. */
public final class RoomTest {
    private static final Check CHECK = new Check("RoomTest");

    public static void main(String[] args) throws Exception {
        ArrowTurner x = new ArrowTurner();
        IdentityHashMap<Object, Boolean> atFirst = new IdentityHashMap<>();
        long elements = count(x, atFirst);
        CHECK.that("holds " + atFirst.size() + " objects", atFirst.size() < 100);
        CHECK.that("holds " + elements + " elements", elements < 20000);
        for (int k = 0; k < 100; k++) {
            Check.feed(x, "7;65;06;45;34;32;21;10;13;46;53");
            x.read();
            x.many(0);
            x.tutte(9, 9);
            x.ways(x.arrows(), 12);
            x.words(k, 1);
            x.hold(k % 6, 0, k);
            x.image();
            x.undo();
        }
        IdentityHashMap<Object, Boolean> later = new IdentityHashMap<>();
        CHECK.due("elements behind many calls", count(x, later), elements);
        CHECK.due("objects behind many calls", later.size(), atFirst.size());
        CHECK.that("the same objects", atFirst.keySet().containsAll(later.keySet()));
        CHECK.end();
    }

    private static long count(Object o, IdentityHashMap<Object, Boolean> seen) throws Exception {
        if (o == null || seen.put(o, true) != null) {
            return 0;
        }
        long sum = 0;
        if (o.getClass().isArray()) {
            boolean flat = o.getClass().getComponentType().isPrimitive();
            for (int i = 0; i < Array.getLength(o); i++) {
                sum += 1 + (flat ? 0 : count(Array.get(o, i), seen));
            }
            return sum;
        }
        for (Field f : o.getClass().getDeclaredFields()) {
            if (!Modifier.isStatic(f.getModifiers())) {
                f.setAccessible(true);
                sum += 1 + (f.getType().isPrimitive() ? 0 : count(f.get(o), seen));
            }
        }
        return sum;
    }
}
