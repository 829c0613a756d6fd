import java.lang.reflect.Method;
import java.util.ArrayList;
import java.util.HashMap;
import java.util.List;
import java.util.Map;
import java.util.TreeMap;

/**
 * Every call with all rows of numbers from the edges of what can be, on objects that are new, small,
 * busy and full: ArrowTurner and Plain answer the same, and are the same behind it.
 */
public final class EdgesCompareTest {
    private static final Check CHECK = new Check("EdgesCompareTest");
    private static final int MIN = Integer.MIN_VALUE, MAX = Integer.MAX_VALUE, CALLS = 512;
    private static final int[] NODES = {MIN, -1, 0, 1, 3, 4, 6, 7, 32, MAX};
    private static final int[] EDGES = {MIN, -1, 0, 2, 3, 4, 5, 6, 9, 10, 32, MAX};
    private static final int[] ARROWINGS = {MIN, -1, 0, 1, 3, 4, 12, 15, 16, 129, 624, 1023, 1024, MAX};
    private static final int[] WORDS = {MIN, -1, 0, 1, 2, 12, 123, 1234, 1243, 4321, 4213, 12340, 1234567, 1243567,
        7654321, 1234568, 12345678, MAX};
    private static final int[] WHATS = {MIN, -1, 0, 1, 2, 3, 4, MAX};
    private static final int[] SMALL = {MIN, -1, 0, 1, 5, 6, 7, 9, 10, 12, 13, MAX};
    private static final int[] HOLDERS = {MIN, -1, 0, 1, 2, 3, 4, 5, 6, MAX};
    private static final int[] PLACES = {MIN, -1, 0, 1, 2, 19, 20, 21, 23, 24, 30, 31, 32, 47, 48, MAX};
    private static final int[] TIMES = {MIN, -1, 0, 1, 3, 39, 40, 41, MAX};
    private static final int[] RUN_WHATS = {MIN, -1, 0, 1, 2, 3, 9, 10, 11, 48, 49, 50, 59, 60, 63, 64, 66, 67, MAX};

    private static final Map<String, int[][]> GIVEN = new TreeMap<>();
    /** Behind these it is asked whether all else is the same, too. */
    private static final List<String> CHANGE = List.of("nodes", "edge", "cut", "set", "fire", "drown", "back", "thin",
            "firer", "feed", "wipe", "read", "hold", "drop", "row", "put", "image", "undo");
    private static final Map<String, Method> REAL = new HashMap<>();
    private static final Map<String, Method> PLAIN = new HashMap<>();

    private ArrowTurner real;
    private Plain plain;
    private int calls;

    private static void given(String names, int[]... numbers) {
        for (String name : names.split(" ")) {
            GIVEN.put(name, numbers);
        }
    }

    private static void tables() throws Exception {
        given("arrows back thin wipe read image undo");
        given("nodes fire drown rooted", NODES);
        given("edge", NODES, NODES);
        given("cut", EDGES);
        given("of", EDGES, WHATS);
        given("set free place trip", ARROWINGS);
        given("ends far words", ARROWINGS, WHATS);
        given("log ofClass", PLACES, WHATS);
        given("flow", ARROWINGS, EDGES);
        given("alike distance step", ARROWINGS, ARROWINGS);
        given("many count", SMALL);
        given("tutte firer", SMALL, SMALL);
        given("ways", ARROWINGS, SMALL);
        given("byWord turn", WORDS);
        given("conjugate off", WORDS, WORDS);
        given("runs", WHATS, TIMES, RUN_WHATS);
        given("feed", new int[] {MIN, -1, 0, '4', '4' << 24 | ';' << 16 | '0' << 8 | '1', MAX}, SMALL);
        given("spell", PLACES);
        given("hold", HOLDERS, new int[] {-1, 0, 1, 2}, ARROWINGS);
        given("drop", HOLDERS);
        given("taken", HOLDERS, WHATS);
        given("row get", HOLDERS, PLACES);
        given("put", HOLDERS, PLACES, new int[] {MIN, MAX});
        given("judge", HOLDERS, ARROWINGS);
        for (Method m : ArrowTurner.class.getDeclaredMethods()) {
            if (java.lang.reflect.Modifier.isPublic(m.getModifiers())) {
                REAL.put(m.getName(), m);
                PLAIN.put(m.getName(), Plain.class.getDeclaredMethod(m.getName(), m.getParameterTypes()));
                CHECK.that("the test calls " + m.getName(), GIVEN.containsKey(m.getName()));
            }
        }
    }

    public static void main(String[] args) throws Exception {
        tables();
        for (int made = 0; made < 4; made++) {
            for (String name : GIVEN.keySet()) {
                new EdgesCompareTest().all(made, name);
            }
            for (int what = 0; what < 2; what++) {
                for (int word : WORDS) {
                    EdgesCompareTest test = new EdgesCompareTest();
                    test.make(made);
                    test.same(made, "hold", 3, what, word);
                    test.sameBehind(made, "hold of " + word);
                }
            }
        }
        CHECK.end();
    }

    private static long ask(Map<String, Method> methods, Object asked, String name, int... numbers) throws Exception {
        Object[] given = new Object[numbers.length];
        for (int i = 0; i < numbers.length; i++) {
            given[i] = numbers[i];
        }
        return ((Number) methods.get(name).invoke(asked, given)).longValue();
    }

    private void same(int made, String name, int... numbers) throws Exception {
        calls++;
        long got = ask(REAL, real, name, numbers);
        long want = ask(PLAIN, plain, name, numbers);
        if (got != want) {
            StringBuilder told = new StringBuilder("object ").append(made).append(", ").append(name);
            for (int number : numbers) {
                told.append(' ').append(number);
            }
            CHECK.due(told.toString(), got, want);
        } else {
            CHECK.due(name, got, want);
        }
    }

    private void feed(int made, String text) throws Exception {
        for (int i = 0; i < text.length(); i++) {
            same(made, "feed", text.charAt(i), 1);
        }
    }

    /** 0 new, 1 small, 2 busy (the ARROWING 12 has a ROUND and a SOURCE), 3 full. */
    private void make(int made) throws Exception {
        real = new ArrowTurner();
        plain = new Plain();
        calls = 0;
        if (made == 0) {
            return;
        }
        feed(made, new String[] {"1", "4;01;12;20;32", "7;01;12;23;34;45;56;06;03;14;25"}[made - 1]);
        same(made, "read");
        if (made == 2) {
            same(made, "set", 0);
        }
        same(made, "image");
        for (int k = 0; made > 1 && k < 8 * made; k++) {
            same(made, "fire", k % plain.count(0));
        }
        for (int k = 0; k <= made; k++) {
            same(made, "firer", 2 + k, k);
        }
        same(made, "hold", 0, 0, plain.arrows());
        same(made, "hold", 1, 1, new int[] {1, 4213, 7654321}[made - 1]);
        same(made, "row", 2, new int[] {0, 1, 20}[made - 1]);
        same(made, "put", 2, 0, made == 2 ? -1 : 1);
        feed(made, "4;10;21;32;0310;0312345678901234567890123".substring(0, 4 + 12 * (made - 1)));
        for (int k = 0; made == 3 && plain.count(4) < 40; k++) {
            same(made, "feed", k, 1);
        }
    }

    private void all(int made, String name) throws Exception {
        List<int[]> rows = List.of(new int[0]);
        for (int[] numbers : GIVEN.get(name)) {
            List<int[]> longer = new ArrayList<>();
            for (int[] begun : rows) {
                for (int number : numbers) {
                    int[] row = java.util.Arrays.copyOf(begun, begun.length + 1);
                    row[begun.length] = number;
                    longer.add(row);
                }
            }
            rows = longer;
        }
        boolean changes = CHANGE.contains(name);
        for (int[] row : rows) {
            if (real == null || changes || calls == CALLS) {
                make(made);
            }
            same(made, name, row);
            if (changes) {
                sameBehind(made, name);
            }
        }
    }

    private void sameBehind(int made, String name) throws Exception {
        int before = CHECK.wrong();
        sameKept(made);
        for (int h = 0; h < 6; h++) {
            for (int kind = 0; kind < 3; kind++) {
                same(made, "taken", h, kind);
            }
            for (int i : new int[] {0, 1, 19, 20}) {
                same(made, "get", h, i);
            }
        }
        same(made, "read");
        same(made, "spell", 9);
        same(made, "undo");
        sameKept(made);
        CHECK.that("object " + made + " behind " + name, CHECK.wrong() == before);
    }

    private void sameKept(int made) throws Exception {
        for (int what = 0; what < 6; what++) {
            same(made, "count", what);
        }
        same(made, "arrows");
        for (int i = 0; i < 32; i += i < 6 ? 1 : 5) {
            same(made, "spell", i);
        }
        for (int k : new int[] {0, 1, 15, 22, 23, 24}) {
            same(made, "log", k, 0);
            same(made, "log", k, 1);
        }
        for (int f = 0; f < 5; f++) {
            same(made, "runs", f, 5, 10);
            same(made, "runs", f, 5, 14);
        }
    }
}
