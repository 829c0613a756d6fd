import com.sun.management.ThreadMXBean;
import java.lang.management.ManagementFactory;
import java.lang.reflect.Array;
import java.lang.reflect.Field;
import java.lang.reflect.Modifier;
import java.util.IdentityHashMap;

/** All calls of a run live in one room: 600,000 objects, 7.3 million fields and elements in all. */
public final class RoomTest {
    private static final Check CHECK = new Check("RoomTest");
    private static final int CALLS = 512, READ_CALLS = 32, MOST_OBJECTS = 600_000;
    private static final long MOST_ELEMENTS = 7_300_000, ELEMENT_BYTES = 8;
    private static final String[] NETS = {"7;65;06;45;34;32;21;10;13;46;53", "7;01;23;45;60",
        "5;01;02;03;04;12;13;14;23;24;34", "7;01;02;03;04;05;06"};

    private interface Call {
        long on(ArrowTurner x, int k);
    }

    public static void main(String[] args) throws Exception {
        held();
        for (String net : NETS) {
            all("set, many, place, rooted", net, (x, k) -> x.set(k % 16) + x.many(k % 2) + x.place(k) + x.rooted(0));
            all("tutte", net, (x, k) -> x.tutte(k % 10, k / 10 % 10));
            all("distance", net, (x, k) -> x.distance(k, k + 1));
            all("step", net, (x, k) -> x.step(0, k));
            all("far", net, (x, k) -> x.far(k, k % 2));
            all("ways", net, (x, k) -> x.ways(k, 12));
            all("trip", net, (x, k) -> x.trip(k));
            all("words", net, (x, k) -> x.words(k, k % 2));
            all("conjugate, off", net, (x, k) -> x.conjugate(12345, 54321) + x.off(1234567, 7654321));
            all("flow, alike", net, (x, k) -> x.flow(k, 9) + x.alike(k, k + 1));
            all("firer, runs", net, (x, k) -> x.firer(k % 6, 0) + x.runs(k % 4, 40, 49));
            all("row, hold", net, (x, k) -> x.row(k % 6, 20) + x.hold(k % 6, 0, k));
            all("fire, drown, thin", net, (x, k) -> x.fire(k % 7) + x.drown(k % 5) + x.thin());
            all("image, undo", net, (x, k) -> x.image() + x.undo());
            all("cut, edge, many", net, (x, k) -> x.cut(0) + x.edge(k % 7, k / 7 % 7) + x.many(1));
            all("feed, read", net, (x, k) -> x.feed('3' << 24 | ';' << 16 | '0' << 8 | '2', 4) + x.read());
            all("nodes", net, (x, k) -> x.nodes(1 + k % 7));
        }
        CHECK.end();
    }

    /** What an object holds when it is new is but a little of the room. */
    private static void held() throws Exception {
        IdentityHashMap<Object, Boolean> seen = new IdentityHashMap<>();
        long elements = count(new ArrowTurner(), seen);
        CHECK.that("holds " + seen.size() + " objects", seen.size() < MOST_OBJECTS);
        CHECK.that("holds " + elements + " elements", elements < MOST_ELEMENTS / 10);
    }

    /** A run of such calls, in turns: 512 in all. */
    private static void all(String calls, String net, Call call) {
        ThreadMXBean threads = (ThreadMXBean) ManagementFactory.getThreadMXBean();
        ArrowTurner x = Check.net(net);
        long thread = Thread.currentThread().getId();
        long before = threads.getThreadAllocatedBytes(thread);
        long sum = 0;
        for (int k = 0; k < (CALLS - READ_CALLS) / calls.split(", ").length; k++) {
            sum += call.on(x, k);
        }
        long made = threads.getThreadAllocatedBytes(thread) - before;
        CHECK.that("a run of " + calls + " makes " + made + " bytes (" + sum + ")",
                made < MOST_ELEMENTS * ELEMENT_BYTES);
    }

    private static long count(Object o, IdentityHashMap<Object, Boolean> seen) throws Exception {
        if (o == null || seen.put(o, true) != null) {
            return 0;
        }
        long sum = 0;
        if (o.getClass().isArray()) {
            boolean flat = o.getClass().getComponentType().isPrimitive();
            for (int i = 0; i < Array.getLength(o); i++) {
                sum += 1 + (flat ? 0 : count(Array.get(o, i), seen));
            }
            return sum;
        }
        if (o.getClass().getName().startsWith("java.")) {
            return 1;
        }
        for (Field f : o.getClass().getDeclaredFields()) {
            if (!Modifier.isStatic(f.getModifiers())) {
                f.setAccessible(true);
                sum += 1 + (f.getType().isPrimitive() ? 0 : count(f.get(o), seen));
            }
        }
        return sum;
    }
}
