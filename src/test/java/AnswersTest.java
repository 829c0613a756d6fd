import java.util.function.Supplier;

/** Answers: each code where it is due, the first of several, and that what is refused changes nothing. */
public final class AnswersTest {
    private static final Check CHECK = new Check("AnswersTest");
    private static final int BAD = -1, NOT = -2, FULL = -3, STATE = -5;
    private static final int NOTHING = -11, OTHER = -12, NO_PLACE = -13, BELOW = -14;
    private static final long NO = Long.MIN_VALUE;
    private static final int MIN = Integer.MIN_VALUE, MAX = Integer.MAX_VALUE;
    private static final String TEN = "7;01;12;23;34;45;56;06;03;14;25";

    private interface Call {
        long on(ArrowTurner x);
    }

    public static void main(String[] args) {
        codes();
        refusedByANewObject();
        refusedByASmallOne();
        refusedByABusyOne();
        refusedByAFullOne();
        refusedWithoutAnImage();
        firstOfSeveral();
        noInPlaceOfAll();
        askingChangesNothing();
        memoryOfItsOwn();
        CHECK.end();
    }

    private static void codes() {
        CHECK.says("BAD (-1), NOT (-2), FULL (-3), STATE (-5), WIDE (-6), NO (the least long)");
        CHECK.due("BAD", ArrowTurner.BAD, BAD);
        CHECK.due("NOT", ArrowTurner.NOT, NOT);
        CHECK.due("FULL", ArrowTurner.FULL, FULL);
        CHECK.due("STATE", ArrowTurner.STATE, STATE);
        CHECK.due("WIDE", ArrowTurner.WIDE, -6);
        CHECK.due("NO", ArrowTurner.NO, NO);
    }

    /** One NODE, nothing else. */
    private static ArrowTurner small() {
        ArrowTurner x = new ArrowTurner();
        x.nodes(1);
        x.image();
        return x;
    }

    /** A little of all there is, and an IMAGE that is otherwise. */
    private static ArrowTurner busy() {
        ArrowTurner x = Check.net("3;10;21");
        x.fire(2);
        x.image();
        Check.feed(x, "5;01;12;20;34");
        x.read();
        x.set(0);
        x.fire(0);
        x.fire(3);
        x.firer(3, 2);
        x.firer(1, 0);
        x.hold(0, 0, 13);
        x.hold(1, 1, 54321);
        x.row(2, 2);
        x.put(2, 0, -7);
        x.row(3, 0);
        Check.feed(x, "6;05;12");
        return x;
    }

    /** 10 EDGES, 24 DEEDS, 4 FIRERS, 40 bytes, a ROW of 20. */
    private static ArrowTurner full() {
        ArrowTurner x = Check.net(TEN);
        for (int k = 0; k < 24; k++) {
            x.fire(k % 7);
        }
        for (int kind = 1; kind < 5; kind++) {
            x.firer(kind, kind);
        }
        x.image();
        x.back();
        x.drown(x.log(22, 0));
        x.hold(0, 0, 1023);
        x.hold(1, 1, 7654321);
        x.row(2, 20);
        x.put(2, 19, MAX);
        x.row(3, 0);
        Check.feed(x, "4;10");
        for (int k = 0; k < 9; k++) {
            x.feed(';', 4);
        }
        return x;
    }

    private static void refused(String told, Supplier<ArrowTurner> made, Call call, long want) {
        ArrowTurner x = made.get();
        CHECK.due(told, call.on(x), want);
        CHECK.same("behind " + told + " all there is", States.whole(x), States.whole(made.get()));
    }

    private static void refusedByANewObject() {
        CHECK.says("What is refused so changes nothing (a new object)");
        Supplier<ArrowTurner> made = ArrowTurner::new;
        refused("nodes(0)", made, x -> x.nodes(0), BAD);
        refused("nodes(8)", made, x -> x.nodes(8), BAD);
        refused("edge(0, 4)", made, x -> x.edge(0, 4), BAD);
        refused("edge(-1, 0)", made, x -> x.edge(-1, 0), BAD);
        refused("edge(2, 2)", made, x -> x.edge(2, 2), BAD);
        refused("cut(0)", made, x -> x.cut(0), BAD);
        refused("of(0, 0)", made, x -> x.of(0, 0), BAD);
        refused("set(1)", made, x -> x.set(1), BAD);
        refused("fire(0)", made, x -> x.fire(0), STATE);
        refused("fire(4)", made, x -> x.fire(4), BAD);
        refused("drown(3)", made, x -> x.drown(3), STATE);
        refused("drown(4)", made, x -> x.drown(4), BAD);
        refused("back()", made, x -> x.back(), STATE);
        refused("thin(), none", made, x -> x.thin(), 0);
        refused("log(0, 0)", made, x -> x.log(0, 0), NOT);
        refused("flow(0, 0)", made, x -> x.flow(0, 0), NO);
        refused("ofClass(1, 0)", made, x -> x.ofClass(1, 0), NOT);
        refused("tutte(10, 0)", made, x -> x.tutte(10, 0), BAD);
        refused("distance(0, 1)", made, x -> x.distance(0, 1), BAD);
        refused("step(0, 0)", made, x -> x.step(0, 0), NOT);
        refused("ways(0, 13)", made, x -> x.ways(0, 13), NO);
        refused("trip(0)", made, x -> x.trip(0), NOT);
        refused("byWord(123)", made, x -> x.byWord(123), BAD);
        refused("firer(6, 0)", made, x -> x.firer(6, 0), BAD);
        refused("firer(0, 7)", made, x -> x.firer(0, 7), BAD);
        refused("runs(0, 1, 0)", made, x -> x.runs(0, 1, 0), BAD);
        refused("feed(0, 0)", made, x -> x.feed(0, 0), BAD);
        refused("feed(0, 5)", made, x -> x.feed(0, 5), BAD);
        refused("wipe(), nothing there", made, x -> x.wipe(), 0);
        refused("read() of nothing", made, x -> x.read(), -1000);
        refused("spell(1)", made, x -> x.spell(1), NOT);
        refused("hold(0, 0, 1)", made, x -> x.hold(0, 0, 1), BAD);
        refused("hold(0, 1, 123)", made, x -> x.hold(0, 1, 123), BAD);
        refused("hold(6, 0, 0)", made, x -> x.hold(6, 0, 0), BAD);
        refused("drop(6)", made, x -> x.drop(6), BAD);
        refused("row(0, 21)", made, x -> x.row(0, 21), BAD);
        refused("row(0, -1)", made, x -> x.row(0, -1), BELOW);
        refused("put(0, 0, 1)", made, x -> x.put(0, 0, 1), NOTHING);
        refused("judge(0, 0)", made, x -> x.judge(0, 0), NOTHING);
        refused("count(6)", made, x -> x.count(6), BAD);
    }

    private static void refusedByASmallOne() {
        CHECK.says("What is refused so changes nothing (one NODE)");
        Supplier<ArrowTurner> made = AnswersTest::small;
        refused("edge(0, 0)", made, x -> x.edge(0, 0), BAD);
        refused("edge(0, 1)", made, x -> x.edge(0, 1), BAD);
        refused("edge(1, 0)", made, x -> x.edge(1, 0), BAD);
        refused("fire(0)", made, x -> x.fire(0), STATE);
        refused("fire(1)", made, x -> x.fire(1), BAD);
        refused("drown(0)", made, x -> x.drown(0), STATE);
        refused("drown(1)", made, x -> x.drown(1), BAD);
        refused("rooted(1)", made, x -> x.rooted(1), BAD);
        refused("set(1)", made, x -> x.set(1), BAD);
        refused("turn(2)", made, x -> x.turn(2), BAD);
        refused("conjugate(1, 2)", made, x -> x.conjugate(1, 2), BAD);
        refused("off(0, 1)", made, x -> x.off(0, 1), BAD);
        refused("hold(0, 1, 12)", made, x -> x.hold(0, 1, 12), BAD);
    }

    private static void refusedByABusyOne() {
        CHECK.says("What is refused so changes nothing (a little of all there is)");
        Supplier<ArrowTurner> made = AnswersTest::busy;
        refused("nodes(0)", made, x -> x.nodes(0), BAD);
        refused("nodes(MAX)", made, x -> x.nodes(MAX), BAD);
        refused("edge(1, 0), is there", made, x -> x.edge(1, 0), STATE);
        refused("edge(0, 2), is there", made, x -> x.edge(0, 2), STATE);
        refused("edge(0, 5)", made, x -> x.edge(0, 5), BAD);
        refused("edge(4, 4)", made, x -> x.edge(4, 4), BAD);
        refused("cut(4)", made, x -> x.cut(4), BAD);
        refused("cut(-1)", made, x -> x.cut(-1), BAD);
        refused("cut(MIN)", made, x -> x.cut(MIN), BAD);
        refused("set(16)", made, x -> x.set(16), BAD);
        refused("set(-1)", made, x -> x.set(-1), BAD);
        refused("fire(0), a SINK", made, x -> x.fire(0), STATE);
        refused("fire(2), neither", made, x -> x.fire(2), STATE);
        refused("fire(5)", made, x -> x.fire(5), BAD);
        refused("drown(1), a SOURCE", made, x -> x.drown(1), STATE);
        refused("drown(4), a SOURCE", made, x -> x.drown(4), STATE);
        refused("drown(-1)", made, x -> x.drown(-1), BAD);
        refused("thin(), none", made, x -> x.thin(), 0);
        refused("firer(-1, 0)", made, x -> x.firer(-1, 0), BAD);
        refused("firer(1, 7)", made, x -> x.firer(1, 7), BAD);
        refused("runs(2, 1, 0)", made, x -> x.runs(2, 1, 0), BAD);
        refused("runs(0, 41, 0)", made, x -> x.runs(0, 41, 0), BAD);
        refused("runs(0, 5, 15)", made, x -> x.runs(0, 5, 15), NOT);
        refused("feed(0, 5)", made, x -> x.feed(0, 5), BAD);
        refused("feed(0, -1)", made, x -> x.feed(0, -1), BAD);
        refused("hold(0, 0, 16)", made, x -> x.hold(0, 0, 16), BAD);
        refused("hold(1, 1, 12344)", made, x -> x.hold(1, 1, 12344), BAD);
        refused("hold(2, 2, 0)", made, x -> x.hold(2, 2, 0), BAD);
        refused("hold(2, 0, -1)", made, x -> x.hold(2, 0, -1), BAD);
        refused("hold(-1, 0, 0)", made, x -> x.hold(-1, 0, 0), BAD);
        refused("drop(-1)", made, x -> x.drop(-1), BAD);
        refused("taken(2, 0)", made, x -> x.taken(2, 0), OTHER);
        refused("taken(0, 3)", made, x -> x.taken(0, 3), BAD);
        refused("row(2, 21)", made, x -> x.row(2, 21), BAD);
        refused("row(2, -1)", made, x -> x.row(2, -1), BELOW);
        refused("row(0, MIN)", made, x -> x.row(0, MIN), BELOW);
        refused("row(6, 1)", made, x -> x.row(6, 1), BAD);
        refused("put(2, 2, 9)", made, x -> x.put(2, 2, 9), NO_PLACE);
        refused("put(2, -1, 9)", made, x -> x.put(2, -1, 9), NO_PLACE);
        refused("put(3, 0, 9)", made, x -> x.put(3, 0, 9), NO_PLACE);
        refused("put(0, 0, 9)", made, x -> x.put(0, 0, 9), OTHER);
        refused("put(1, 0, 9)", made, x -> x.put(1, 0, 9), OTHER);
        refused("put(4, 0, 9)", made, x -> x.put(4, 0, 9), NOTHING);
        refused("judge(2, 16)", made, x -> x.judge(2, 16), BAD);
        refused("judge(1, 0)", made, x -> x.judge(1, 0), OTHER);
    }

    private static void refusedByAFullOne() {
        CHECK.says("What is refused so changes nothing (all full)");
        Supplier<ArrowTurner> made = AnswersTest::full;
        CHECK.due("EDGES", made.get().count(1), 10);
        CHECK.due("DEEDS", made.get().count(2), 24);
        CHECK.due("FIRERS", made.get().count(3), 4);
        CHECK.due("bytes", made.get().count(4), 40);
        refused("edge(0, 2), an 11th", made, x -> x.edge(0, 2), FULL);
        refused("edge(6, 4), an 11th", made, x -> x.edge(6, 4), FULL);
        refused("edge(2, 5), is there", made, x -> x.edge(2, 5), STATE);
        refused("edge(7, 0)", made, x -> x.edge(7, 0), BAD);
        refused("cut(10)", made, x -> x.cut(10), BAD);
        refused("set(1024)", made, x -> x.set(1024), BAD);
        refused("fire(7)", made, x -> x.fire(7), BAD);
        refused("drown(7)", made, x -> x.drown(7), BAD);
        refused("firer(0, 0), a fifth", made, x -> x.firer(0, 0), FULL);
        refused("firer(5, 6), a fifth", made, x -> x.firer(5, 6), FULL);
        refused("firer(6, 6)", made, x -> x.firer(6, 6), BAD);
        refused("runs(4, 1, 0)", made, x -> x.runs(4, 1, 0), BAD);
        for (int n = 1; n <= 4; n++) {
            int bytes = n;
            refused("feed(0, " + n + "), a 41st", made, x -> x.feed('1', bytes), FULL);
        }
        refused("feed(0, 5)", made, x -> x.feed(0, 5), BAD);
        refused("feed(0, 0)", made, x -> x.feed(0, 0), BAD);
        refused("put(2, 20, 1)", made, x -> x.put(2, 20, 1), NO_PLACE);
        refused("row(2, 21)", made, x -> x.row(2, 21), BAD);
        refused("hold(2, 0, 1024)", made, x -> x.hold(2, 0, 1024), BAD);
    }

    private static void refusedWithoutAnImage() {
        CHECK.says("STATE: none was kept");
        refused("undo() of a new object", ArrowTurner::new, x -> x.undo(), STATE);
        Supplier<ArrowTurner> made = () -> {
            ArrowTurner x = Check.net("4;01;12");
            x.fire(0);
            x.firer(1, 0);
            x.feed('4', 1);
            return x;
        };
        refused("undo()", made, x -> x.undo(), STATE);
    }

    private static void first(String told, Supplier<ArrowTurner> made, Call call, long want) {
        CHECK.due(told, call.on(made.get()), want);
    }

    private static void firstOfSeveral() {
        CHECK.says("Of several the first that the call's words name");
        Supplier<ArrowTurner> full = AnswersTest::full;
        Supplier<ArrowTurner> busy = AnswersTest::busy;
        first("edge: BAD, there are 10", full, x -> x.edge(3, 3), BAD);
        first("edge: STATE, FULL", full, x -> x.edge(1, 0), STATE);
        first("log: BAD what, NOT", full, x -> x.log(24, 2), BAD);
        first("log: BAD what, NOT", full, x -> x.log(MAX, -1), BAD);
        first("ofClass: BAD what, NOT", full, x -> x.ofClass(1000, 2), BAD);
        first("ofClass: BAD k, what", full, x -> x.ofClass(-1, 2), BAD);
        first("place: BAD", full, x -> x.place(1024), BAD);
        first("distance: BAD, NOT", busy, x -> x.distance(16, 3), BAD);
        first("distance: BAD, the same", busy, x -> x.distance(16, 16), BAD);
        first("step: BAD, the same", busy, x -> x.step(-1, -1), BAD);
        first("words: BAD what, a ROUND", busy, x -> x.words(3, 2), BAD);
        first("off: BAD, not the same ARROWS", busy, x -> x.off(12345, 12344), BAD);
        first("off: BAD, no WORDS both", busy, x -> x.off(0, 0), BAD);
        first("firer: BAD kind, FULL", full, x -> x.firer(6, 0), BAD);
        first("firer: BAD v, FULL", full, x -> x.firer(0, -1), BAD);
        first("runs: BAD firer, NOT", full, x -> x.runs(4, 0, 2), BAD);
        first("runs: BAD n, NOT", full, x -> x.runs(0, 41, 49), BAD);
        first("runs: BAD what, nothing FIRED", full, x -> x.runs(0, 0, 50), BAD);
        first("feed: BAD, FULL", full, x -> x.feed(0, 5), BAD);
        first("feed: BAD, FULL", full, x -> x.feed(0, 0), BAD);
        first("taken: BAD h and kind", busy, x -> x.taken(6, 3), BAD);
        first("taken: BAD kind, nothing there", busy, x -> x.taken(5, 3), BAD);
        first("taken: BAD kind, a ROW", busy, x -> x.taken(2, -1), BAD);
        first("row: BAD h, n below 0", busy, x -> x.row(6, -1), BAD);
        first("row: BAD h, n below 0", busy, x -> x.row(-1, MIN), BAD);
        first("row: BAD h, n above 20", busy, x -> x.row(-1, 21), BAD);
        first("put: BAD h, no place", busy, x -> x.put(6, -1, 0), BAD);
        first("put: -11, no place", busy, x -> x.put(5, 20, 0), NOTHING);
        first("put: -12, no place", busy, x -> x.put(0, 20, 0), OTHER);
        first("put: -12, no place", busy, x -> x.put(1, -1, 0), OTHER);
        first("judge: BAD h, arrowing", busy, x -> x.judge(6, 16), BAD);
        first("judge: BAD arrowing, nothing there", busy, x -> x.judge(5, 16), BAD);
        first("judge: BAD arrowing, no ROW", busy, x -> x.judge(0, 16), BAD);
        first("judge: BAD arrowing, no ROW", busy, x -> x.judge(1, -1), BAD);
        first("hold: BAD h, what, v", busy, x -> x.hold(6, 2, -1), BAD);
        first("spell: BAD", busy, x -> x.spell(MIN), BAD);
    }

    private static void noInPlaceOfAll() {
        CHECK.says("NO (the least long) is told by longs in place of all of these");
        Supplier<ArrowTurner> busy = AnswersTest::busy;
        first("flow, BAD arrowing", busy, x -> x.flow(16, 2), NO);
        first("flow, BAD arrowing", busy, x -> x.flow(-1, 2), NO);
        first("flow, BAD edge", busy, x -> x.flow(0, 4), NO);
        first("flow, BAD edge", busy, x -> x.flow(0, -1), NO);
        first("flow, STATE", busy, x -> x.flow(0, 0), NO);
        first("flow, STATE, behind the CHORD", busy, x -> x.flow(0, 3), NO);
        first("flow", busy, x -> x.flow(0, 2), -1);
        first("ways, BAD arrowing", busy, x -> x.ways(16, 0), NO);
        first("ways, BAD n", busy, x -> x.ways(0, 13), NO);
        first("ways, BAD n", busy, x -> x.ways(0, -1), NO);
        first("get, BAD", busy, x -> x.get(6, 0), NO);
        first("get, BAD", busy, x -> x.get(-1, 0), NO);
        first("get, -11", busy, x -> x.get(4, 0), NO);
        first("get, -12, an ARROWING", busy, x -> x.get(0, 0), NO);
        first("get, -12, a WORD", busy, x -> x.get(1, 0), NO);
        first("get, -13", busy, x -> x.get(2, 2), NO);
        first("get, -13", busy, x -> x.get(2, -1), NO);
        first("get, -13, no place at all", busy, x -> x.get(3, 0), NO);
        first("get", busy, x -> x.get(2, 0), -7);
        first("get, the least int", busy, x -> x.put(2, 1, MIN) * x.get(2, 1), MIN);
    }

    /** Nothing is promised of what these change, so they change nothing. */
    private static final Call[] ASKED = {x -> x.of(0, 2), x -> x.arrows(), x -> x.ends(0, 1), x -> x.free(3),
        x -> x.log(0, 0), x -> x.flow(0, 2), x -> x.alike(0, 5), x -> x.many(0), x -> x.many(1),
        x -> x.ofClass(0, 1), x -> x.place(1), x -> x.rooted(0), x -> x.tutte(9, 9), x -> x.distance(0, 1),
        x -> x.step(0, 1), x -> x.far(0, 1), x -> x.ways(1, 12), x -> x.trip(1), x -> x.words(0, 0),
        x -> x.words(0, 1), x -> x.runs(0, 40, 0), x -> x.runs(1, 40, 64), x -> x.spell(3), x -> x.taken(0, 0),
        x -> x.get(2, 0), x -> x.judge(2, 0), x -> x.count(0)};
    private static final Call[] ASKED_OF_WORDS = {x -> x.byWord(21354), x -> x.turn(21354),
        x -> x.conjugate(21354, 12345), x -> x.off(21354, 12345)};

    private static void askingChangesNothing() {
        CHECK.says("Nothing is promised beyond the answers and state changes described");
        String busy = States.whole(busy());
        String full = States.whole(full());
        for (int i = 0; i < ASKED.length + ASKED_OF_WORDS.length; i++) {
            Call call = i < ASKED.length ? ASKED[i] : ASKED_OF_WORDS[i - ASKED.length];
            ArrowTurner x = busy();
            long once = call.on(x);
            CHECK.due("asked again, " + i, call.on(x), once);
            CHECK.same("all there is, behind " + i, States.whole(x), busy);
            ArrowTurner y = full();
            call.on(y);
            CHECK.same("all there is when full, behind " + i, States.whole(y), full);
        }
    }

    private static void memoryOfItsOwn() {
        CHECK.says("All memory is the class's own");
        ArrowTurner busy = busy();
        ArrowTurner fresh = new ArrowTurner();
        ArrowTurner full = full();
        full.many(1);
        full.tutte(2, 3);
        full.distance(0, 5);
        full.words(0, 1);
        full.runs(0, 40, 0);
        CHECK.same("a new object beside others", States.whole(fresh), States.whole(new ArrowTurner()));
        CHECK.same("a busy one beside others", States.whole(busy), States.whole(busy()));
        full = full();
        ArrowTurner other = Check.net("3;01;12;02");
        CHECK.due("many(1) of one", full.many(1), 48);
        CHECK.due("many(1) of another", other.many(1), 2);
        CHECK.due("many(1) of the one again", full.many(1), 48);
    }
}
