import java.util.function.Consumer;
import java.util.function.ToLongBiFunction;

/** Terms, section 1 (the net, arrowings, deeds): a test for each sentence that names an edge. */
public final class NetTermsTest {
    private static final Check CHECK = new Check("NetTermsTest");
    private static final int BAD = -1, NOT = -2, FULL = -3, STATE = -5;
    private static final long NO = Long.MIN_VALUE;
    private static final String TEN = "7;01;12;23;34;45;56;06;03;14;25";
    private static final String[] RINGS = {"3;01;12;02", "4;01;12;23;03", "5;01;12;23;34;04",
        "6;01;12;23;34;45;05", "7;01;12;23;34;45;56;06"};

    private static void due(String call, long got, long want) {
        CHECK.due(call, got, want);
    }

    public static void main(String[] args) {
        oneToSevenNodes();
        noEdgesBehindNodes();
        fourAtFirst();
        nodesFromZero();
        edgesFromZero();
        tenEdgesAtMost();
        numbersBehindCut();
        nothingToCut();
        unlikeNodes();
        noTwoBetweenTheSame();
        lowAndHigh();
        arrowingsByEdges();
        bitsOfArrowings();
        roundsShortAndLong();
        noRoundThereAndBack();
        freeIsWithoutRound();
        endsHaveEdges();
        allEdgesOfEnds();
        firedIsSink();
        drownedIsSource();
        doneTruly();
        deedsAtMost();
        oldestGo();
        thinTwoSideBySide();
        thinAsLongAsThereAre();
        thinLeavesArrows();
        backTakesTheNewest();
        backTurnsAllEdges();
        logIsEmptyBehind();
        logStaysBehind();
        CHECK.end();
    }

    private static ArrowTurner nodes(int n) {
        ArrowTurner x = new ArrowTurner();
        x.nodes(n);
        return x;
    }

    private static void oneToSevenNodes() {
        CHECK.says("N 1 .. 7");
        ArrowTurner x = new ArrowTurner();
        due("nodes(0)", x.nodes(0), BAD);
        due("nodes(8)", x.nodes(8), BAD);
        due("count(0)", x.count(0), 4);
        due("nodes(1)", x.nodes(1), 4);
        due("nodes(7)", x.nodes(7), 1);
        due("nodes(0)", x.nodes(0), BAD);
        due("nodes(8)", x.nodes(8), BAD);
        due("count(0)", x.count(0), 7);
        for (int n = 1; n <= 7; n++) {
            x.nodes(n);
            due("count(0) behind nodes(" + n + ")", x.count(0), n);
        }
    }

    private static void noEdgesBehindNodes() {
        CHECK.says("N becomes n, there are no EDGES: what N was");
        for (int n = 1; n <= 7; n++) {
            ArrowTurner x = Check.net(TEN);
            x.set(1023);
            x.feed('3', 1);
            x.hold(0, 0, 1023);
            x.firer(1, 1);
            x.image();
            due("nodes(" + n + ")", x.nodes(n), 7);
            due("EDGES", x.count(1), 0);
            due("CHORDS", x.count(5), 0);
            due("arrows()", x.arrows(), 0);
            due("set(1)", x.set(1), BAD);
            due("many(0)", x.many(0), 1);
            due("edge(0, " + (n - 1) + ")", x.edge(0, n - 1), n == 1 ? BAD : 0);
            due("arrows() then", x.arrows(), 0);
            due("THE TAPE stays", x.count(4), 1);
            due("HOLDERS stay", x.taken(0, 0), 1023);
            due("FIRERS stay", x.count(3), 1);
            due("THE IMAGE stays", x.undo(), 10);
            due("nodes(7), as many", x.nodes(7), 7);
            due("EDGES", x.count(1), 0);
        }
    }

    private static void fourAtFirst() {
        CHECK.says("NODES .. 4 at first");
        due("count(0)", new ArrowTurner().count(0), 4);
        due("edge(3, 0)", new ArrowTurner().edge(3, 0), 0);
        due("edge(4, 0)", new ArrowTurner().edge(4, 0), BAD);
        due("words(0, 1)", new ArrowTurner().words(0, 1), 24);
        due("byWord(4321)", new ArrowTurner().byWord(4321), 0);
    }

    private static void nodesFromZero() {
        CHECK.says("NODES 0 .. N less 1");
        for (int n = 1; n <= 7; n++) {
            ArrowTurner x = nodes(n);
            x.firer(0, 0);
            for (int v = -1; v <= 7; v++) {
                boolean isOne = v >= 0 && v < n;
                String of = " of " + n;
                due("fire(" + v + ")" + of, x.fire(v), isOne ? STATE : BAD);
                due("drown(" + v + ")" + of, x.drown(v), isOne ? STATE : BAD);
                due("rooted(" + v + ")" + of, x.rooted(v), isOne ? 0 : BAD);
                due("runs(0, 1, 60 and " + v + ")" + of, x.runs(0, 1, 60 + v), isOne ? 0 : BAD);
                ArrowTurner y = nodes(n);
                due("edge(" + v + ", 0)" + of, y.edge(v, 0), isOne && v > 0 ? 0 : BAD);
                y = nodes(n);
                due("edge(0, " + v + ")" + of, y.edge(0, v), isOne && v > 0 ? 0 : BAD);
            }
        }
    }

    private static void edgesFromZero() {
        CHECK.says("EDGES, numbered from 0 as they come");
        ArrowTurner x = nodes(7);
        for (int e = 0; e < 10; e++) {
            int from = TEN.charAt(2 + 3 * e) - '0';
            int to = TEN.charAt(3 + 3 * e) - '0';
            due("of(" + e + ", 0) ahead of it", x.of(e, 0), BAD);
            due("edge(" + from + ", " + to + ")", x.edge(from, to), e);
            due("of(" + e + ", 0)", x.of(e, 0), from);
            due("of(" + e + ", 1)", x.of(e, 1), to);
            due("count(1)", x.count(1), e + 1);
        }
        due("of(10, 0)", x.of(10, 0), BAD);
        due("of(-1, 0)", x.of(-1, 0), BAD);
    }

    private static void tenEdgesAtMost() {
        CHECK.says("EDGES .. 10 at most");
        ArrowTurner x = Check.net("7;01;12;23;34;45;56;06;03;14");
        due("edge(2, 5), the 10th", x.edge(2, 5), 9);
        due("edge(3, 6), an 11th", x.edge(3, 6), FULL);
        due("count(1)", x.count(1), 10);
        due("set(1023)", x.set(1023), 0);
        due("edge(6, 3), an 11th", x.edge(6, 3), FULL);
        due("arrows()", x.arrows(), 1023);
        due("cut(9)", x.cut(9), 9);
        due("edge(3, 6), the 10th", x.edge(3, 6), 9);
        due("edge(2, 5), an 11th", x.edge(2, 5), FULL);
        Check.feed(x, TEN);
        due("read() of 10", x.read(), 10);
        Check.feed(x, TEN + ";36");
        due("read() of 11", x.read(), -1031);
    }

    private static void numbersBehindCut() {
        CHECK.says("An EDGE is no more; those behind it have numbers 1 less, and lead as they did");
        for (int edge = 0; edge < 10; edge++) {
            for (int pattern : new int[] {0, 1023, 0b0101010101, 0b1100110011, 1 << edge, 1023 - (1 << edge)}) {
                ArrowTurner x = Check.net(TEN);
                x.set(pattern);
                String text = Check.spelled(x);
                String left = text.substring(0, 1 + 3 * edge) + text.substring(4 + 3 * edge);
                int from = text.charAt(2 + 3 * edge) - '0';
                int to = text.charAt(3 + 3 * edge) - '0';
                due("cut(" + edge + ") of " + pattern, x.cut(edge), 9);
                CHECK.same("what is left", Check.spelled(x), left);
                due("arrows()", x.arrows(), pattern % (1 << edge) + pattern / (2 << edge) * (1 << edge));
                due("of(9, 0)", x.of(9, 0), BAD);
                due("byWord(1234567)", x.byWord(1234567), 0);
                due("byWord(7654321)", x.byWord(7654321), 511);
                due("edge again, it is the last", x.edge(from, to), 9);
                due("its bit", x.of(9, 3), pattern >> edge & 1);
            }
        }
    }

    private static void nothingToCut() {
        CHECK.says("cut: how many there are. BAD");
        ArrowTurner x = Check.net(TEN);
        for (int left = 9; left >= 0; left--) {
            due("cut(" + (left + 1) + ")", x.cut(left + 1), BAD);
            due("cut(" + left + ")", x.cut(left), left);
            due("count(1)", x.count(1), left);
        }
        due("cut(0) of none", x.cut(0), BAD);
        due("set(1)", x.set(1), BAD);
        due("count(0)", x.count(0), 7);
    }

    private static void unlikeNodes() {
        CHECK.says("EDGES, each between two unlike NODES");
        for (int n = 1; n <= 7; n++) {
            ArrowTurner x = nodes(n);
            for (int v = 0; v < n; v++) {
                due("edge(" + v + ", " + v + ") of " + n, x.edge(v, v), BAD);
            }
            due("count(1)", x.count(1), 0);
        }
    }

    private static void noTwoBetweenTheSame() {
        CHECK.says("EDGES, no two between the same two");
        for (int v = 0; v < 7; v++) {
            for (int w = 0; w < 7; w++) {
                if (v != w) {
                    ArrowTurner x = nodes(7);
                    due("edge(" + v + ", " + w + ")", x.edge(v, w), 0);
                    due("edge(" + v + ", " + w + ") again", x.edge(v, w), STATE);
                    due("edge(" + w + ", " + v + ") then", x.edge(w, v), STATE);
                    due("count(1)", x.count(1), 1);
                    due("cut(0)", x.cut(0), 0);
                    due("edge(" + w + ", " + v + ") behind cut", x.edge(w, v), 0);
                }
            }
        }
        ArrowTurner ten = Check.net(TEN);
        ten.cut(0);
        due("the last one again", ten.edge(5, 2), STATE);
        due("the first one again", ten.edge(2, 1), STATE);
        due("the one that was cut", ten.edge(1, 0), 9);
    }

    private static void lowAndHigh() {
        CHECK.says("LOW of an EDGE is its lesser NODE, HIGH its greater one");
        for (int v = 0; v < 7; v++) {
            for (int w = 0; w < 7; w++) {
                if (v != w) {
                    ArrowTurner x = nodes(7);
                    x.edge(v, w);
                    due("LOW of " + v + ", " + w, x.of(0, 0), Math.min(v, w));
                    due("HIGH of " + v + ", " + w, x.of(0, 1), Math.max(v, w));
                    due("its bit", x.of(0, 3), v < w ? 0 : 1);
                }
            }
        }
    }

    /** All places where a call is given an ARROWING; BAD or NO is made a 0, all else a 1. */
    private static final String[] TAKE_ARROWINGS = {"ends", "free", "flow", "alike, one", "alike, other",
        "place", "distance, from", "distance, to", "step, from", "step, to", "far", "ways", "trip", "words",
        "hold", "judge", "set"};

    private static long given(ArrowTurner x, int call, int a) {
        switch (call) {
            case 0: return x.ends(a, 0);
            case 1: return x.free(a);
            case 2: return x.count(5) == 0 ? a < 0 || a >= 1 << x.count(1) ? BAD : 0 : x.flow(a, lastChord(x));
            case 3: return x.alike(a, 0);
            case 4: return x.alike(0, a);
            case 5: return x.place(a);
            case 6: return x.distance(a, 0);
            case 7: return x.distance(0, a);
            case 8: return x.step(a, 0);
            case 9: return x.step(0, a);
            case 10: return x.far(a, 0);
            case 11: return x.ways(a, 1);
            case 12: return x.trip(a);
            case 13: return x.words(a, 1);
            case 14: return x.hold(0, 0, a);
            case 15: return x.judge(1, a);
            default: return x.set(a);
        }
    }

    private static int lastChord(ArrowTurner x) {
        int e = x.count(1) - 1;
        while (x.of(e, 2) == 0) {
            e--;
        }
        return e;
    }

    private static void arrowingsByEdges() {
        CHECK.says("An ARROWING is a number 0 .. (2 to how many EDGES there are) less 1");
        for (int edges = 0; edges <= 10; edges++) {
            ArrowTurner x = Check.net(TEN.substring(0, 1 + 3 * edges));
            x.row(1, 0);
            int all = 1 << edges;
            int[] numbers = {0, all - 1, all, all + 1, 2 * all, -1, -all, Integer.MAX_VALUE, Integer.MIN_VALUE,
                Integer.MIN_VALUE + all - 1, 1 << 16};
            for (int call = 0; call < TAKE_ARROWINGS.length; call++) {
                for (int a : numbers) {
                    long got = given(x, call, a);
                    boolean refused = got == BAD || got == NO;
                    String told = TAKE_ARROWINGS[call] + " given " + a + " of " + edges + " EDGES";
                    CHECK.that(told + " answered " + got, refused == (a < 0 || a >= all));
                }
            }
            due("the last that was set", x.arrows(), all - 1);
        }
    }

    private static void bitsOfArrowings() {
        CHECK.says("bit e is 0, if EDGE e leads from its LOW to its HIGH, 1, if from HIGH to LOW");
        ArrowTurner x = Check.net(TEN);
        for (int e = 0; e < 10; e++) {
            x.set(1 << e);
            for (int k = 0; k < 10; k++) {
                due("of(" + k + ", 3) of " + (1 << e), x.of(k, 3), k == e ? 1 : 0);
                int from = TEN.charAt((k == e ? 3 : 2) + 3 * k);
                due("the NODE that EDGE " + k + " leads from", x.spell(2 + 3 * k), from);
            }
        }
        x.set(1023);
        CHECK.same("all turned", Check.spelled(x), "7;10;21;32;43;54;65;60;30;41;52");
    }

    private static void roundsShortAndLong() {
        CHECK.says("ROUND, if from some NODE one comes, going along one or more EDGES, back to that NODE");
        for (String text : RINGS) {
            ArrowTurner x = Check.net(text);
            int last = x.count(1) - 1;
            int round = (1 << last) - 1;
            for (int a = 0; a < 2 << last; a++) {
                boolean isRound = a == round || a == 1 << last;
                due("free(" + a + ") of " + text, x.free(a), isRound ? 0 : 1);
                due("place(" + a + ") of " + text, x.place(a) == NOT ? 1 : 0, isRound ? 1 : 0);
            }
        }
        ArrowTurner high = Check.net("7;01;02;12;03;45;56;46;34");
        due("a ROUND at the greatest NODES", high.free(1 << 6), 0);
        due("a ROUND at the least NODES", high.free(1 << 1), 0);
        due("two ROUNDS", high.free(1 << 6 | 1 << 1), 0);
        due("none", high.free(0), 1);
    }

    private static void noRoundThereAndBack() {
        CHECK.says("going along EDGES, each the way it leads");
        for (int a = 0; a < 2; a++) {
            due("one EDGE, free(" + a + ")", Check.net("2;01").free(a), 1);
        }
        ArrowTurner tree = Check.net("7;01;02;03;14;15;36");
        for (int a = 0; a < 64; a++) {
            due("a tree, free(" + a + ")", tree.free(a), 1);
        }
        due("two ways to one NODE", Check.net("4;01;13;02;23").free(0), 1);
        due("there by one, back by the other", Check.net("4;01;13;02;23").free(12), 0);
    }

    private static void freeIsWithoutRound() {
        CHECK.says("An ARROWING has a ROUND; else it is FREE");
        for (int n = 1; n <= 7; n++) {
            due("without EDGES, N " + n, nodes(n).free(0), 1);
            due("without EDGES, N " + n, nodes(n).many(0), 1);
        }
        due("a ROUND far from the SOURCE", Check.net("6;01;12;23;34;45;53").free(0b100000), 0);
        due("a SOURCE, no ROUND", Check.net("6;01;12;23;34;45;53").free(0), 1);
        due("a ROUND far from the SINK", Check.net("6;01;12;02;23;34;45").free(0b000100), 0);
    }

    private static void endsHaveEdges() {
        CHECK.says("SOURCE, SINK: a NODE that has EDGES");
        for (int n = 1; n <= 7; n++) {
            due("ends(0, 0) without EDGES", nodes(n).ends(0, 0), 0);
            due("ends(0, 1) without EDGES", nodes(n).ends(0, 1), 0);
        }
        ArrowTurner x = Check.net("7;35");
        due("ends(0, 0)", x.ends(0, 0), 1 << 3);
        due("ends(0, 1)", x.ends(0, 1), 1 << 5);
        due("ends(1, 0)", x.ends(1, 0), 1 << 5);
        due("ends(1, 1)", x.ends(1, 1), 1 << 3);
        due("fire(6)", x.fire(6), STATE);
        due("drown(0)", x.drown(0), STATE);
        x.cut(0);
        due("ends(0, 0), cut", x.ends(0, 0), 0);
        due("fire(3), cut", x.fire(3), STATE);
        due("drown(5), cut", x.drown(5), STATE);
    }

    private static void allEdgesOfEnds() {
        CHECK.says("SOURCE: all of its EDGES lead away from it; SINK: all lead to it");
        String[] stars = {"7;01;02;03;04;05;06", "7;60;61;62;63;64;65"};
        for (int hub = 0; hub <= 6; hub += 6) {
            ArrowTurner x = Check.net(stars[hub / 6]);
            int away = x.arrows();
            for (int a = 0; a < 64; a++) {
                boolean isSource = (x.ends(a, 0) & 1 << hub) != 0;
                boolean isSink = (x.ends(a, 1) & 1 << hub) != 0;
                CHECK.that("SOURCE " + hub + " of " + a, isSource == (a == away));
                CHECK.that("SINK " + hub + " of " + a, isSink == (a == 63 - away));
            }
            x.set(away ^ 32);
            due("fire, one EDGE leads to it", x.fire(hub), STATE);
            due("drown, most lead away", x.drown(hub), STATE);
        }
    }

    private static void firedIsSink() {
        CHECK.says("A SOURCE is FIRED: all its EDGES are turned (it is a SINK then)");
        for (int hub = 0; hub < 7; hub++) {
            ArrowTurner x = star(hub);
            int before = x.arrows();
            due("fire(" + hub + ")", x.fire(hub), 63 - before);
            due("a SINK", x.ends(x.arrows(), 1), 1 << hub);
            due("SOURCES", x.ends(x.arrows(), 0), 127 - (1 << hub));
            due("fire(" + hub + ") again", x.fire(hub), STATE);
        }
        ArrowTurner one = Check.net("7;01;23;45;06");
        due("its EDGES alone", one.fire(4), 4);
        due("its EDGES alone", one.fire(0), 1 + 4 + 8);
    }

    private static void drownedIsSource() {
        CHECK.says("A SINK is DROWNED: all its EDGES are turned (it is a SOURCE then)");
        for (int hub = 0; hub < 7; hub++) {
            ArrowTurner x = star(hub);
            int before = x.arrows();
            x.set(63 - before);
            due("drown(" + hub + ")", x.drown(hub), before);
            due("a SOURCE", x.ends(x.arrows(), 0), 1 << hub);
            due("SINKS", x.ends(x.arrows(), 1), 127 - (1 << hub));
            due("drown(" + hub + ") again", x.drown(hub), STATE);
        }
        ArrowTurner one = Check.net("7;01;23;45;06");
        due("its EDGES alone", one.drown(5), 4);
        due("its EDGES alone", one.drown(1), 1 + 4);
    }

    /** All EDGES lead away from one NODE. */
    private static ArrowTurner star(int hub) {
        ArrowTurner x = nodes(7);
        for (int v = 0; v < 7; v++) {
            if (v != hub) {
                x.edge(hub, v);
            }
        }
        return x;
    }

    private static void doneTruly() {
        CHECK.says("THE LOG: what was done truly by fire() and drown()");
        ArrowTurner x = Check.net("4;01;12");
        x.fire(1);
        x.drown(1);
        x.fire(3);
        x.drown(3);
        x.fire(4);
        x.drown(-1);
        due("refused ones", x.count(2), 0);
        x.firer(0, 0);
        x.runs(0, 9, 0);
        x.distance(0, 3);
        x.step(0, 1);
        x.ways(0, 5);
        x.trip(0);
        due("in thought", x.count(2), 0);
        x.fire(0);
        due("count(2)", x.count(2), 1);
        x.drown(2);
        due("count(2)", x.count(2), 2);
        due("log(0, 0)", x.log(0, 0), 0);
        due("log(0, 1)", x.log(0, 1), 0);
        due("log(1, 0)", x.log(1, 0), 2);
        due("log(1, 1)", x.log(1, 1), 1);
        x.back();
        due("back() is none", x.count(2), 1);
        due("log(1, 0)", x.log(1, 0), NOT);
    }

    private static void deedsAtMost() {
        CHECK.says("THE LOG .. 24 DEEDS at most");
        ArrowTurner x = Check.net("2;01");
        for (int k = 1; k <= 30; k++) {
            due("deed " + k, k % 2 == 1 ? x.fire(0) : x.fire(1), k % 2);
            due("count(2) behind " + k, x.count(2), Math.min(k, 24));
            due("log(" + (k - 1) + ", 0)", x.log(k - 1, 0), k <= 24 ? 1 - k % 2 : NOT);
        }
        due("log(23, 0)", x.log(23, 0), 1);
        due("log(24, 0)", x.log(24, 0), NOT);
        for (int k = 0; k < 24; k++) {
            due("back()", x.back(), (k + 1) % 2);
        }
        due("back(), a 25th", x.back(), STATE);
    }

    private static void oldestGo() {
        CHECK.says("THE LOG .. the newest last .. (the oldest go)");
        ArrowTurner x = Check.net("7;01;12;23;34;45;56");
        for (int k = 0; k < 26; k++) {
            x.fire(k % 7);
        }
        for (int k = 0; k < 24; k++) {
            due("log(" + k + ", 0)", x.log(k, 0), (k + 2) % 7);
            due("log(" + k + ", 1)", x.log(k, 1), 0);
        }
        due("drown(4)", x.drown(4) >= 0 ? 1 : 0, 1);
        due("the newest", x.log(23, 0), 4);
        due("the newest, drowned", x.log(23, 1), 1);
        due("the oldest", x.log(0, 0), 3);
        due("the one ahead of the newest", x.log(22, 1), 0);
        ArrowTurner turns = Check.net("2;01");
        for (int k = 0; k < 24; k++) {
            due("deed " + k, k % 3 == 0 ? turns.drown((k + 1) % 2) : turns.fire(k % 2), (k + 1) % 2);
        }
        for (int more = 24; more < 30; more++) {
            turns.fire(more % 2);
            for (int k = 0; k < 23; k++) {
                int deed = k + more - 23;
                boolean drowned = deed < 24 && deed % 3 == 0;
                due("the NODE of " + k, turns.log(k, 0), drowned ? (deed + 1) % 2 : deed % 2);
                due("whether " + k + " was DROWNED", turns.log(k, 1), drowned ? 1 : 0);
            }
        }
        ArrowTurner drowned = Check.net("2;01");
        drowned.drown(1);
        for (int k = 0; k < 23; k++) {
            drowned.fire(k % 2 == 0 ? 1 : 0);
        }
        due("the oldest was drowned", drowned.log(0, 1), 1);
        drowned.fire(0);
        due("it has gone", drowned.log(0, 1), 0);
        due("its node too", drowned.log(0, 0), 1);
    }

    private static String thinned(String net, String deeds) {
        ArrowTurner x = Check.net(net);
        for (String deed : deeds.split(" ")) {
            int node = deed.charAt(1) - '0';
            CHECK.that(deed + " can be done", (deed.charAt(0) == 'f' ? x.fire(node) : x.drown(node)) >= 0);
        }
        int had = x.count(2);
        int before = x.arrows();
        int went = x.thin();
        due("what stays behind thin()", x.count(2), had - went);
        due("thin() again", x.thin(), 0);
        due("arrows() behind thin()", x.arrows(), before);
        StringBuilder text = new StringBuilder().append(went);
        for (int k = 0; k < x.count(2); k++) {
            text.append(x.log(k, 1) == 1 ? " d" : " f").append(x.log(k, 0));
        }
        return text.toString();
    }

    private static void thinTwoSideBySide() {
        CHECK.says("THIN: two DEEDS side by side of one NODE, one FIRED, one DROWNED");
        String two = "7;01;23;45";
        due("thin() of nothing", Check.net(two).thin(), 0);
        CHECK.same("one DEED", thinned(two, "f0"), "0 f0");
        CHECK.same("FIRED, DROWNED", thinned(two, "f0 d0"), "2");
        CHECK.same("DROWNED, FIRED", thinned(two, "d1 f1"), "2");
        CHECK.same("both FIRED", thinned(two, "f0 f1"), "0 f0 f1");
        CHECK.same("both DROWNED", thinned(two, "d1 d0"), "0 d1 d0");
        CHECK.same("of two NODES", thinned(two, "f0 d3"), "0 f0 d3");
        CHECK.same("DROWNED alone", thinned("7;10;32", "d0"), "0 d0");
        CHECK.same("DROWNED first", thinned("7;10;32", "d0 d2 f2 f3"), "2 d0 f3");
        CHECK.same("of one NODE, not side by side", thinned(two, "f0 f2 d0"), "0 f0 f2 d0");
        CHECK.same("both FIRED, not side by side", thinned(two, "f0 f1 f0"), "0 f0 f1 f0");
        CHECK.same("at the beginning", thinned(two, "f0 d0 f2 f4"), "2 f2 f4");
        CHECK.same("in the middle", thinned(two, "f2 f0 d0 f4"), "2 f2 f4");
        CHECK.same("at the end", thinned(two, "f2 f4 d1 f1"), "2 f2 f4");
    }

    private static void thinAsLongAsThereAre() {
        CHECK.says("THIN: as long as there are such two, the first such two go");
        String two = "7;01;23;45";
        CHECK.same("one in another", thinned(two, "f0 f2 f4 d4 d2 d0"), "6");
        CHECK.same("one behind another", thinned(two, "f0 d0 f2 d2 d5 f5"), "6");
        CHECK.same("three of one NODE", thinned(two, "f0 d0 f0"), "2 f0");
        CHECK.same("three of one NODE", thinned(two, "f0 f1 d1"), "2 f0");
        CHECK.same("four of one NODE", thinned(two, "f0 d0 f0 d0"), "4");
        CHECK.same("what comes side by side", thinned(two, "f2 f0 f4 d4 d0 f3"), "4 f2 f3");
        CHECK.same("and what stays", thinned(two, "d1 f2 f3 d3 f4 d4 d2 f1 f0"), "8 f0");
        CHECK.same("all of 24", thinned(two, "f0 d0 ".repeat(12)), "24");
        CHECK.same("all but the ends of 24", thinned(two, "f2 " + "f0 d0 ".repeat(11) + "f3"), "22 f2 f3");
    }

    private static void thinLeavesArrows() {
        CHECK.says("THIN: (THE ARROWS stay)");
        ArrowTurner x = Check.net("4;01;12;23");
        x.fire(0);
        x.drown(3);
        x.fire(3);
        due("arrows() before", x.arrows(), 1);
        due("thin()", x.thin(), 2);
        due("arrows() behind", x.arrows(), 1);
        due("back() of what stays", x.back(), 0);
        due("back() of nothing", x.back(), STATE);
    }

    private static void backTakesTheNewest() {
        CHECK.says("BACK: the newest DEED goes out of THE LOG");
        ArrowTurner x = Check.net("4;01;12;23");
        due("back() of nothing", x.back(), STATE);
        due("arrows()", x.arrows(), 0);
        x.fire(0);
        x.fire(1);
        x.drown(3);
        due("back()", x.back(), 2);
        due("count(2)", x.count(2), 2);
        due("the newest", x.log(1, 0), 1);
        due("the oldest", x.log(0, 0), 0);
        due("back()", x.back(), 1);
        due("back(), the last", x.back(), 0);
        due("count(2)", x.count(2), 0);
        due("log(0, 0)", x.log(0, 0), NOT);
        due("back() of nothing", x.back(), STATE);
        due("arrows()", x.arrows(), 0);
    }

    private static void backTurnsAllEdges() {
        CHECK.says("BACK: all EDGES of its NODE are turned");
        for (int hub = 0; hub < 7; hub++) {
            ArrowTurner x = star(hub);
            int before = x.arrows();
            x.fire(hub);
            due("back() of fire(" + hub + ")", x.back(), before);
            x.set(63 - before);
            x.drown(hub);
            due("back() of drown(" + hub + ")", x.back(), 63 - before);
        }
        ArrowTurner y = Check.net("5;01;12;23;34");
        y.fire(0);
        y.drown(4);
        due("the others stay", y.back(), 1);
    }

    private static void behind(String call, Consumer<ArrowTurner> done, boolean isEmpty) {
        ArrowTurner x = Check.net("4;01;12;02");
        x.firer(0, 0);
        x.fire(0);
        x.fire(1);
        done.accept(x);
        due("THE LOG behind " + call, x.count(2), isEmpty ? 0 : 2);
        due("its oldest behind " + call, x.log(0, 0), isEmpty ? NOT : 0);
        if (isEmpty) {
            due("back() behind " + call, x.back(), STATE);
        }
    }

    private static void logIsEmptyBehind() {
        CHECK.says("THE LOG is empty behind all that changes N, EDGES, or sets THE ARROWS");
        behind("nodes(5)", x -> x.nodes(5), true);
        behind("nodes(4), as many", x -> x.nodes(4), true);
        behind("edge(0, 3)", x -> x.edge(0, 3), true);
        behind("cut(0)", x -> x.cut(0), true);
        behind("cut(2)", x -> x.cut(2), true);
        behind("set(0)", x -> x.set(0), true);
        behind("set(what is)", x -> x.set(x.arrows()), true);
        behind("read()", x -> {
            x.feed('2', 1);
            x.read();
        }, true);
        behind("read() of what is", x -> {
            Check.feed(x, Check.spelled(x));
            x.read();
        }, true);
    }

    private static void logStaysBehind() {
        CHECK.says("THE LOG is empty behind all that changes N, EDGES, or sets THE ARROWS, and nothing else");
        behind("nodes(0)", x -> x.nodes(0), false);
        behind("nodes(8)", x -> x.nodes(8), false);
        behind("edge(0, 0)", x -> x.edge(0, 0), false);
        behind("edge(2, 0)", x -> x.edge(2, 0), false);
        behind("edge(0, 4)", x -> x.edge(0, 4), false);
        behind("cut(3)", x -> x.cut(3), false);
        behind("cut(-1)", x -> x.cut(-1), false);
        behind("set(8)", x -> x.set(8), false);
        behind("set(-1)", x -> x.set(-1), false);
        behind("read() of nothing", x -> x.read(), false);
        behind("read() of a FAULT", x -> {
            Check.feed(x, "4;01;10");
            x.read();
        }, false);
        behind("fire(0), refused", x -> x.fire(0), false);
        behind("thin(), nothing went", x -> x.thin(), false);
        behind("image()", x -> x.image(), false);
        behind("undo(), refused", x -> x.undo(), false);
        behind("image() and undo()", x -> {
            x.image();
            x.set(0);
            x.undo();
        }, false);
        behind("firer, runs", x -> x.runs(x.firer(1, 0), 9, 0), false);
        behind("feed, wipe", x -> {
            x.feed(0, 4);
            x.wipe();
        }, false);
        behind("hold, row, put, drop", x -> {
            x.hold(0, 0, 7);
            x.row(0, 3);
            x.put(0, 0, 1);
            x.drop(0);
        }, false);
        ToLongBiFunction<ArrowTurner, Integer> asked = (x, a) -> x.far(a, 1) + x.trip(a) + x.ways(a, 12)
                + x.words(a, 1) + x.place(a) + x.many(1) + x.tutte(1, 1) + x.rooted(0);
        behind("what is only asked", x -> asked.applyAsLong(x, 1), false);
    }
}
