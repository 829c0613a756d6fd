import java.util.TreeSet;
import java.util.function.IntPredicate;
import java.util.function.Supplier;

/** Promises 1 to 47: each number that a call is given, just within, just outside, least and greatest. */
public final class NumbersTest {
    private static final Check CHECK = new Check("NumbersTest");
    private static final int BAD = -1, NOT = -2, NO_PLACE = -13, BELOW = -14;
    private static final long NO = Long.MIN_VALUE;
    private static final int MIN = Integer.MIN_VALUE, MAX = Integer.MAX_VALUE;
    private static final String TEN = "7;01;12;23;34;45;56;06;03;14;25";
    private static final TreeSet<Integer> NUMBERS = new TreeSet<>();

    static {
        for (int v = -70; v <= 130; v++) {
            NUMBERS.add(v);
        }
        for (int bit = 7; bit < 32; bit++) {
            for (int near = -2; near <= 2; near++) {
                NUMBERS.add((1 << bit) + near);
                NUMBERS.add(near - (1 << bit));
            }
        }
        for (int near = 0; near < 8; near++) {
            NUMBERS.add(MIN + near);
            NUMBERS.add(MAX - near);
        }
    }

    private interface Call {
        long with(ArrowTurner x, int v);
    }

    public static void main(String[] args) {
        theNet();
        deeds();
        flowsAndClasses();
        firings();
        words();
        firers();
        texts();
        holders();
        CHECK.end();
    }

    /** All is full: 10 EDGES, 24 DEEDS, 4 FIRERS, 40 bytes; HOLDERS 0 to 5: two of each kind, none. */
    private static ArrowTurner full() {
        ArrowTurner x = Check.net(TEN);
        for (int k = 0; k < 24; k++) {
            x.fire(k % 7);
        }
        for (int kind = 0; kind < 4; kind++) {
            x.firer(kind, kind);
        }
        for (int k = 0; k < 10; k++) {
            x.feed(0, 4);
        }
        x.hold(0, 0, 5);
        x.hold(1, 1, 7654321);
        x.row(2, 20);
        x.row(3, 0);
        return x;
    }

    /**
     * Of all NUMBERS those that fit are not refused, all others are answered by what is told. Each is
     * given to a new object, for what one call does must not meet the next.
     */
    private static void only(String call, Supplier<ArrowTurner> made, Call asked, IntPredicate fits, long refused) {
        for (int v : NUMBERS) {
            ArrowTurner x = made.get();
            long got = asked.with(x, v);
            if (fits.test(v)) {
                // A FLOW can be -1, which is no BAD where longs are told.
                boolean taken = got != refused && (refused == NO || got != BAD);
                CHECK.that(call + ", " + v + " fits, but answered " + got, taken);
            } else {
                CHECK.due(call + ", " + v, got, refused);
            }
        }
    }

    private static void only(String call, Call asked, int least, int greatest, long refused) {
        only(call, NumbersTest::full, asked, v -> v >= least && v <= greatest, refused);
    }

    private static void only(String call, Call asked, int least, int greatest) {
        only(call, asked, least, greatest, BAD);
    }

    private static ArrowTurner seven() {
        return Check.net("7");
    }

    private static void theNet() {
        CHECK.says("Promise 2: BAD: n (1 .. 7)");
        only("nodes(n)", (x, v) -> x.nodes(v), 1, 7);
        CHECK.says("Promise 3: BAD: no two unlike NODES");
        only("edge(v, 0)", NumbersTest::seven, (x, v) -> x.edge(v, 0), v -> v >= 1 && v <= 6, BAD);
        only("edge(0, v)", NumbersTest::seven, (x, v) -> x.edge(0, v), v -> v >= 1 && v <= 6, BAD);
        only("edge(v, 6)", NumbersTest::seven, (x, v) -> x.edge(v, 6), v -> v >= 0 && v <= 5, BAD);
        only("edge(6, v)", NumbersTest::seven, (x, v) -> x.edge(6, v), v -> v >= 0 && v <= 5, BAD);
        only("edge(v, v)", NumbersTest::seven, (x, v) -> x.edge(v, v), v -> false, BAD);
        only("edge(v, 0) of 1", () -> Check.net("1"), (x, v) -> x.edge(v, 0), v -> false, BAD);
        only("edge(v, 3) of 4", ArrowTurner::new, (x, v) -> x.edge(v, 3), v -> v >= 0 && v <= 2, BAD);
        CHECK.says("Promise 4: BAD");
        only("cut(v)", (x, v) -> x.cut(v), 0, 9);
        only("cut(v) of 1", () -> Check.net("2;01"), (x, v) -> x.cut(v), v -> v == 0, BAD);
        only("cut(v) of none", ArrowTurner::new, (x, v) -> x.cut(v), v -> false, BAD);
        CHECK.says("Promise 5: BAD");
        for (int what = 0; what < 4; what++) {
            int asked = what;
            only("of(v, " + what + ")", (x, v) -> x.of(v, asked), 0, 9);
        }
        only("of(0, what)", (x, v) -> x.of(0, v), 0, 3);
        only("of(9, what)", (x, v) -> x.of(9, v), 0, 3);
        only("of(10, what)", (x, v) -> x.of(10, v), 0, -1);
        only("of(v, 0) of none", ArrowTurner::new, (x, v) -> x.of(v, 0), v -> false, BAD);
        CHECK.says("Promise 7: BAD");
        only("set(v)", (x, v) -> x.set(v), 0, 1023);
        only("set(v) without EDGES", ArrowTurner::new, (x, v) -> x.set(v), v -> v == 0, BAD);
        CHECK.says("Promise 8: BAD");
        only("ends(v, 0)", (x, v) -> x.ends(v, 0), 0, 1023);
        only("ends(v, 1)", (x, v) -> x.ends(v, 1), 0, 1023);
        only("ends(0, what)", (x, v) -> x.ends(0, v), 0, 1);
        only("ends(1024, what)", (x, v) -> x.ends(1024, v), 0, -1);
        CHECK.says("Promise 9: BAD");
        only("free(v)", (x, v) -> x.free(v), 0, 1023);
        only("free(v) without EDGES", ArrowTurner::new, (x, v) -> x.free(v), v -> v == 0, BAD);
        CHECK.says("Promise 47: BAD");
        only("count(what)", (x, v) -> x.count(v), 0, 5);
        only("count(what) of a new one", ArrowTurner::new, (x, v) -> x.count(v), v -> v >= 0 && v <= 5, BAD);
    }

    private static void deeds() {
        CHECK.says("Promise 10: BAD; STATE: the NODE is no SOURCE");
        only("fire(v)", (x, v) -> x.fire(v), 0, 6);
        only("fire(v) of 4", ArrowTurner::new, (x, v) -> x.fire(v), v -> v >= 0 && v <= 3, BAD);
        CHECK.says("Promise 11: BAD; STATE: the NODE is no SINK");
        only("drown(v)", (x, v) -> x.drown(v), 0, 6);
        only("drown(v) of 4", ArrowTurner::new, (x, v) -> x.drown(v), v -> v >= 0 && v <= 3, BAD);
        CHECK.says("Promise 14: BAD: what, k below 0; NOT: there are not as many");
        only("log(k, 0)", (x, v) -> x.log(v, 0), 0, MAX);
        only("log(k, 1)", (x, v) -> x.log(v, 1), 0, MAX);
        only("log(0, what)", (x, v) -> x.log(0, v), 0, 1);
        only("log(24, what)", (x, v) -> x.log(24, v), 0, 1);
        only("log(0, what) of none", ArrowTurner::new, (x, v) -> x.log(0, v), v -> v == 0 || v == 1, BAD);
        for (int v : NUMBERS) {
            if (v >= 0) {
                CHECK.due("log(" + v + ", 0)", full().log(v, 0), v < 24 ? v % 7 : NOT);
                CHECK.due("log(" + v + ", 1)", full().log(v, 1), v < 24 ? 0 : NOT);
                CHECK.due("log(" + v + ", 0) of none", new ArrowTurner().log(v, 0), NOT);
            }
        }
    }

    private static void flowsAndClasses() {
        CHECK.says("Promise 15: NO: BAD; STATE: the EDGE is of TREE");
        only("flow(v, 9)", (x, v) -> x.flow(v, 9), 0, 1023, NO);
        only("flow(v, 6)", (x, v) -> x.flow(v, 6), 0, 1023, NO);
        only("flow(0, v)", (x, v) -> x.flow(0, v), 6, 9, NO);
        only("flow(v, 0), of TREE", (x, v) -> x.flow(v, 0), 0, -1, NO);
        only("flow(0, v) of none", ArrowTurner::new, (x, v) -> x.flow(0, v), v -> false, NO);
        CHECK.says("Promise 16: BAD");
        only("alike(v, 0)", (x, v) -> x.alike(v, 0), 0, 1023);
        only("alike(0, v)", (x, v) -> x.alike(0, v), 0, 1023);
        only("alike(v, v)", (x, v) -> x.alike(v, v), 0, 1023);
        CHECK.says("Promise 17: BAD");
        only("many(what)", (x, v) -> x.many(v), 0, 1);
        CHECK.says("Promise 18: BAD: what, k below 0; NOT: there are not as many");
        only("ofClass(k, 0)", (x, v) -> x.ofClass(v, 0), 0, MAX);
        only("ofClass(k, 1)", (x, v) -> x.ofClass(v, 1), 0, MAX);
        only("ofClass(0, what)", (x, v) -> x.ofClass(0, v), 0, 1);
        only("ofClass(99, what)", (x, v) -> x.ofClass(99, v), 0, 1);
        ArrowTurner ten = Check.net(TEN);
        for (int v : NUMBERS) {
            if (v >= 0) {
                CHECK.that("ofClass(" + v + ", 0)", v < 48 ? ten.ofClass(v, 0) > 0 : ten.ofClass(v, 0) == NOT);
                CHECK.that("ofClass(" + v + ", 1)", v < 48 == Check.net(TEN).ofClass(v, 1) >= 0);
            }
        }
        CHECK.says("Promise 19: BAD");
        only("place(v)", (x, v) -> x.place(v), 0, 1023);
        CHECK.says("Promise 20: BAD");
        only("rooted(v)", (x, v) -> x.rooted(v), 0, 6);
        only("rooted(v) of 4", ArrowTurner::new, (x, v) -> x.rooted(v), v -> v >= 0 && v <= 3, BAD);
        CHECK.says("Promise 21: BAD (0 .. 9)");
        only("tutte(v, 0)", (x, v) -> x.tutte(v, 0), 0, 9);
        only("tutte(v, 9)", (x, v) -> x.tutte(v, 9), 0, 9);
        only("tutte(0, v)", (x, v) -> x.tutte(0, v), 0, 9);
        only("tutte(9, v)", (x, v) -> x.tutte(9, v), 0, 9);
        only("tutte(v, v) without EDGES", ArrowTurner::new, (x, v) -> x.tutte(v, v), v -> v >= 0 && v <= 9, BAD);
    }

    private static void firings() {
        CHECK.says("Promise 22: BAD; NOT");
        only("distance(v, 0)", (x, v) -> x.distance(v, 0), 0, 1023);
        only("distance(0, v)", (x, v) -> x.distance(0, v), 0, 1023);
        only("distance(v, v)", (x, v) -> x.distance(v, v), 0, 1023);
        CHECK.says("Promise 23: BAD; NOT");
        only("step(v, 0)", (x, v) -> x.step(v, 0), 0, 1023);
        only("step(0, v)", (x, v) -> x.step(0, v), 0, 1023);
        only("step(v, v)", (x, v) -> x.step(v, v), 0, 1023);
        CHECK.says("Promise 24: BAD");
        only("far(v, 0)", (x, v) -> x.far(v, 0), 0, 1023);
        only("far(v, 1)", (x, v) -> x.far(v, 1), 0, 1023);
        only("far(0, what)", (x, v) -> x.far(0, v), 0, 1);
        CHECK.says("Promise 25: NO: BAD; n (0 .. 12)");
        only("ways(v, 0)", (x, v) -> x.ways(v, 0), 0, 1023, NO);
        only("ways(v, 12)", (x, v) -> x.ways(v, 12), 0, 1023, NO);
        only("ways(0, n)", (x, v) -> x.ways(0, v), 0, 12, NO);
        only("ways(0, n) without EDGES", ArrowTurner::new, (x, v) -> x.ways(0, v), v -> v >= 0 && v <= 12, NO);
        CHECK.says("Promise 26: BAD; NOT");
        only("trip(v)", (x, v) -> x.trip(v), 0, 1023);
    }

    private static boolean isWord(int n, int word) {
        String digits = String.valueOf(word);
        boolean all = digits.length() == n;
        for (int v = 1; v <= n; v++) {
            all &= digits.indexOf('0' + v) >= 0;
        }
        return all;
    }

    private static void words() {
        String[] nets = {"1", "2;01", "3;01;12"};
        int[] goods = {1, 12, 123};
        for (int n = 1; n <= 3; n++) {
            String net = nets[n - 1];
            int good = goods[n - 1];
            int words = n;
            IntPredicate fits = v -> isWord(words, v);
            Supplier<ArrowTurner> made = () -> Check.net(net);
            CHECK.says("Promises 27, 29, 30, 31, 38: BAD, no such WORD");
            only("byWord(v) of " + n, made, (x, v) -> x.byWord(v), fits, BAD);
            only("turn(v) of " + n, made, (x, v) -> x.turn(v), fits, BAD);
            only("conjugate(v, good) of " + n, made, (x, v) -> x.conjugate(v, good), fits, BAD);
            only("conjugate(good, v) of " + n, made, (x, v) -> x.conjugate(good, v), fits, BAD);
            only("off(v, good) of " + n, made, (x, v) -> x.off(v, good), fits, BAD);
            only("off(good, v) of " + n, made, (x, v) -> x.off(good, v), fits, BAD);
            only("hold(0, 1, v) of " + n, made, (x, v) -> x.hold(0, 1, v), fits, BAD);
        }
        CHECK.says("Promise 28: BAD");
        only("words(v, 0)", (x, v) -> x.words(v, 0), 0, 1023);
        only("words(v, 1)", (x, v) -> x.words(v, 1), 0, 1023);
        only("words(0, what)", (x, v) -> x.words(0, v), 0, 1);
        only("words(63, what), a ROUND", (x, v) -> x.words(63, v), 0, 1);
    }

    private static ArrowTurner firing() {
        ArrowTurner x = Check.net(TEN);
        x.firer(1, 0);
        x.firer(3, 6);
        return x;
    }

    private static void firers() {
        CHECK.says("Promise 32: BAD: kind, v");
        only("firer(kind, 0)", ArrowTurner::new, (x, v) -> x.firer(v, 0), v -> v >= 0 && v <= 5, BAD);
        only("firer(kind, 6)", ArrowTurner::new, (x, v) -> x.firer(v, 6), v -> v >= 0 && v <= 5, BAD);
        only("firer(0, v)", ArrowTurner::new, (x, v) -> x.firer(0, v), v -> v >= 0 && v <= 6, BAD);
        only("firer(5, v)", ArrowTurner::new, (x, v) -> x.firer(5, v), v -> v >= 0 && v <= 6, BAD);
        only("firer(kind, 0), full", (x, v) -> x.firer(v, 0), 0, 5);
        only("firer(0, v), full", (x, v) -> x.firer(0, v), 0, 6);
        CHECK.says("Promise 33: BAD; n (0 .. 40); what 10 .. 49, 60 and a NODE");
        only("runs(v, 1, 0)", (x, v) -> x.runs(v, 1, 0), 0, 3);
        only("runs(v, 1, 0) of 2", NumbersTest::firing, (x, v) -> x.runs(v, 1, 0), v -> v == 0 || v == 1, BAD);
        only("runs(v, 1, 0) of none", ArrowTurner::new, (x, v) -> x.runs(v, 1, 0), v -> false, BAD);
        for (int what : new int[] {0, 1, 2, 10, 49, 60, 66}) {
            only("runs(0, v, " + what + ")", (x, v) -> x.runs(0, v, what), 0, 40);
            only("runs(9, v, " + what + ")", (x, v) -> x.runs(9, v, what), 0, -1);
        }
        IntPredicate isWhat = v -> v >= 0 && v <= 2 || v >= 10 && v <= 49 || v >= 60 && v <= 66;
        only("runs(0, 40, what)", NumbersTest::full, (x, v) -> x.runs(0, 40, v), isWhat, BAD);
        only("runs(0, 0, what)", NumbersTest::full, (x, v) -> x.runs(0, 0, v), isWhat, BAD);
        only("runs(0, 0, what) of 1", () -> {
            ArrowTurner x = Check.net("1");
            x.firer(0, 0);
            return x;
        }, (x, v) -> x.runs(0, 0, v), isWhat.and(v -> v <= 60), BAD);
    }

    private static void texts() {
        CHECK.says("Promise 34: BAD: n (1 .. 4)");
        only("feed('1', n)", ArrowTurner::new, (x, v) -> x.feed('1', v), v -> v >= 1 && v <= 4, BAD);
        only("feed('1', n), full", (x, v) -> x.feed('1', v), 1, 4);
        CHECK.says("Promise 34: any v");
        only("feed(v, 4)", ArrowTurner::new, (x, v) -> x.feed(v, 4) - 4, v -> true, BAD);
        only("feed(v, 1)", ArrowTurner::new, (x, v) -> x.feed(v, 1) - 1, v -> true, BAD);
        CHECK.says("Promise 37: BAD: i below 0; NOT: there are not as many");
        only("spell(i)", (x, v) -> x.spell(v), 0, MAX);
        for (int v : NUMBERS) {
            if (v >= 0) {
                CHECK.that("spell(" + v + ") of 31", v < 31 == full().spell(v) > 0);
                CHECK.that("spell(" + v + ") of 31", v < 31 || full().spell(v) == NOT);
                CHECK.due("spell(" + v + ") of 1", new ArrowTurner().spell(v), v == 0 ? '4' : NOT);
            }
        }
    }

    private static void holders() {
        CHECK.says("Promise 38: BAD: h, what, v (no such ARROWING, WORD)");
        only("hold(h, 0, 5)", (x, v) -> x.hold(v, 0, 5), 0, 5);
        only("hold(h, 1, 1234567)", (x, v) -> x.hold(v, 1, 1234567), 0, 5);
        only("hold(0, what, 5)", (x, v) -> x.hold(0, v, 5), 0, 0);
        only("hold(0, what, 1234567)", (x, v) -> x.hold(0, v, 1234567), 1, 1);
        only("hold(0, 0, v)", (x, v) -> x.hold(0, 0, v), 0, 1023);
        CHECK.says("Promise 39: BAD");
        only("drop(h)", (x, v) -> x.drop(v), 0, 5);
        CHECK.says("Promise 40: BAD");
        only("taken(h, 0)", (x, v) -> x.taken(v, 0), 0, 5);
        only("taken(0, kind)", (x, v) -> x.taken(0, v), 0, 2);
        only("taken(2, kind), a ROW", (x, v) -> x.taken(2, v), 0, 2);
        only("taken(4, kind), nothing", (x, v) -> x.taken(4, v), 0, 2);
        CHECK.says("Promise 41: BAD: h, n above 20; -14: n below 0");
        only("row(h, 0)", (x, v) -> x.row(v, 0), 0, 5);
        only("row(h, 20)", (x, v) -> x.row(v, 20), 0, 5);
        only("row(h, -1)", (x, v) -> x.row(v, -1), 0, 5);
        for (int v : NUMBERS) {
            CHECK.due("row(0, " + v + ")", full().row(0, v), v < 0 ? BELOW : v > 20 ? BAD : v);
            CHECK.due("row(6, " + v + ")", full().row(6, v), BAD);
        }
        CHECK.says("Promise 42: BAD: h; -13");
        only("put(h, 0, 1)", (x, v) -> x.put(v, 0, 1), 0, 5);
        only("put(2, i, 1)", (x, v) -> x.put(2, v, 1), 0, 19, NO_PLACE);
        only("put(3, i, 1), no place", (x, v) -> x.put(3, v, 1), 0, -1, NO_PLACE);
        only("put(2, 19, v), any", (x, v) -> x.put(2, 19, v), MIN, MAX);
        for (int v : NUMBERS) {
            ArrowTurner x = full();
            x.put(2, 19, v);
            CHECK.due("get(2, 19) behind put of " + v, x.get(2, 19), v);
        }
        CHECK.says("Promise 43: NO: BAD: h; -11; -12; -13");
        only("get(h, 0)", NumbersTest::full, (x, v) -> x.get(v, 0), v -> v == 2, NO);
        only("get(2, i)", (x, v) -> x.get(2, v), 0, 19, NO);
        only("get(3, i), no place", (x, v) -> x.get(3, v), 0, -1, NO);
        CHECK.says("Promise 44: BAD: h, arrowing");
        only("judge(h, 0)", (x, v) -> x.judge(v, 0), 0, 5);
        only("judge(2, v)", (x, v) -> x.judge(2, v), 0, 1023);
        only("judge(0, v), an ARROWING", (x, v) -> x.judge(0, v), 0, 1023);
        only("judge(5, v), nothing", (x, v) -> x.judge(5, v), 0, 1023);
    }
}
