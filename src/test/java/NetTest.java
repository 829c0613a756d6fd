/** Promises 1 to 9: a new object, the net, SOURCES and SINKS, ROUNDS. */
public final class NetTest {
    private static final Check CHECK = new Check("NetTest");
    private static final int BAD = -1, NOT = -2, FULL = -3, STATE = -5;

    private static void due(String call, long got, long want) {
        CHECK.due(call, got, want);
    }

    public static void main(String[] args) {
        newObject();
        nodes();
        edge();
        cut();
        of();
        arrowsAndSet();
        ends();
        free();
        CHECK.end();
    }

    private static void newObject() {
        ArrowTurner x = new ArrowTurner();
        due("1 count(0)", x.count(0), 4);
        for (int what = 1; what <= 5; what++) {
            due("1 count(" + what + ")", x.count(what), 0);
        }
        due("1 arrows()", x.arrows(), 0);
        due("1 spell(0)", x.spell(0), '4');
        due("1 spell(1)", x.spell(1), NOT);
        due("1 undo()", x.undo(), STATE);
        due("1 wipe()", x.wipe(), 0);
        due("1 back()", x.back(), STATE);
        for (int h = 0; h <= 5; h++) {
            due("1 drop(" + h + ")", x.drop(h), 0);
        }
        ArrowTurner y = new ArrowTurner();
        y.nodes(7);
        y.edge(0, 1);
        due("1 an object of its own", new ArrowTurner().count(0), 4);
        due("1 an object of its own", x.count(1), 0);
    }

    private static void nodes() {
        ArrowTurner x = Check.net("4;10;12");
        x.fire(1);
        due("2 nodes(0)", x.nodes(0), BAD);
        due("2 nodes(8)", x.nodes(8), BAD);
        due("2 nodes(-1)", x.nodes(-1), BAD);
        due("2 nodes(MIN)", x.nodes(Integer.MIN_VALUE), BAD);
        due("2 refused: edges", x.count(1), 2);
        due("2 refused: log", x.count(2), 1);
        due("2 nodes(7)", x.nodes(7), 4);
        due("2 count(0)", x.count(0), 7);
        due("2 count(1)", x.count(1), 0);
        due("2 count(2)", x.count(2), 0);
        due("2 arrows()", x.arrows(), 0);
        due("2 edge(6, 0)", x.edge(6, 0), 0);
        due("2 nodes(7) again", x.nodes(7), 7);
        due("2 count(1)", x.count(1), 0);
        due("2 arrows()", x.arrows(), 0);
        due("2 nodes(1)", x.nodes(1), 7);
        due("2 edge(0, 0)", x.edge(0, 0), BAD);
        due("2 many(0)", x.many(0), 1);
        due("2 many(1)", x.many(1), 1);
        due("2 ends(0, 0)", x.ends(0, 0), 0);
        due("2 nodes(1) again", x.nodes(1), 1);
    }

    private static void edge() {
        ArrowTurner x = new ArrowTurner();
        due("3 edge(0, 3)", x.edge(0, 3), 0);
        due("3 edge(3, 1)", x.edge(3, 1), 1);
        due("3 arrows()", x.arrows(), 2);
        due("3 edge(2, 2)", x.edge(2, 2), BAD);
        due("3 edge(-1, 0)", x.edge(-1, 0), BAD);
        due("3 edge(0, 4)", x.edge(0, 4), BAD);
        due("3 edge(4, 0)", x.edge(4, 0), BAD);
        due("3 edge(0, 3)", x.edge(0, 3), STATE);
        due("3 edge(3, 0)", x.edge(3, 0), STATE);
        x.fire(0);
        due("3 log", x.count(2), 1);
        due("3 edge(0, 3) refused", x.edge(0, 3), STATE);
        due("3 log stays", x.count(2), 1);
        due("3 edge(2, 1)", x.edge(2, 1), 2);
        due("3 log is empty", x.count(2), 0);
        due("3 arrows as fired", x.arrows(), 1 + 2 + 4);

        ArrowTurner full = Check.net("7;01;02;03;04;05;06;12;13;14");
        due("3 edge, the 10th", full.edge(6, 5), 9);
        due("3 count(1)", full.count(1), 10);
        due("3 edge, an 11th", full.edge(4, 5), FULL);
        due("3 one that is, full", full.edge(5, 6), STATE);
        due("3 no node, full", full.edge(5, 7), BAD);
        due("3 count(1)", full.count(1), 10);
        due("3 arrows()", full.arrows(), 512);
        due("3 cut", full.cut(0), 9);
        due("3 edge", full.edge(1, 0), 9);
    }

    private static void cut() {
        ArrowTurner x = Check.net("5;01;21;23;43;04");
        due("4 arrows()", x.arrows(), 2 + 8);
        x.fire(2);
        due("4 fired", x.arrows(), 8 + 4);
        due("4 cut(5)", x.cut(5), BAD);
        due("4 cut(-1)", x.cut(-1), BAD);
        due("4 refused: log", x.count(2), 1);
        due("4 refused: edges", x.count(1), 5);
        due("4 cut(1)", x.cut(1), 4);
        due("4 log is empty", x.count(2), 0);
        due("4 arrows()", x.arrows(), 4 + 2);
        due("4 of(1, 0)", x.of(1, 0), 2);
        due("4 of(1, 1)", x.of(1, 1), 3);
        due("4 of(3, 1)", x.of(3, 1), 4);
        due("4 cut(3)", x.cut(3), 3);
        due("4 arrows()", x.arrows(), 6);
        due("4 cut(0)", x.cut(0), 2);
        due("4 arrows()", x.arrows(), 3);
        due("4 cut(0)", x.cut(0), 1);
        due("4 cut(0)", x.cut(0), 0);
        due("4 cut(0)", x.cut(0), BAD);
        due("4 arrows()", x.arrows(), 0);
        due("4 count(0)", x.count(0), 5);

        ArrowTurner triangle = Check.net("3;01;12;20");
        due("4 the chord", triangle.of(2, 2), 1);
        due("4 many(0)", triangle.many(0), 6);
        triangle.cut(0);
        due("4 no chord any more", triangle.of(1, 2), 0);
        due("4 count(5)", triangle.count(5), 0);
        due("4 many(0)", triangle.many(0), 4);
        due("4 many(1)", triangle.many(1), 1);
    }

    private static void of() {
        ArrowTurner x = Check.net("5;43;32;24;10");
        int[][] want = {{3, 4, 0, 1}, {2, 3, 0, 1}, {2, 4, 1, 0}, {0, 1, 0, 1}};
        for (int e = 0; e < 4; e++) {
            for (int what = 0; what < 4; what++) {
                due("5 of(" + e + ", " + what + ")", x.of(e, what), want[e][what]);
            }
        }
        due("5 of(4, 0)", x.of(4, 0), BAD);
        due("5 of(-1, 0)", x.of(-1, 0), BAD);
        due("5 of(0, 4)", x.of(0, 4), BAD);
        due("5 of(0, -1)", x.of(0, -1), BAD);
        x.set(0);
        due("5 of(0, 3) behind set", x.of(0, 3), 0);
    }

    private static void arrowsAndSet() {
        ArrowTurner x = Check.net("4;01;12;23");
        due("6 arrows()", x.arrows(), 0);
        due("7 set(5)", x.set(5), 0);
        due("6 arrows()", x.arrows(), 5);
        due("7 set(8)", x.set(8), BAD);
        due("7 set(-1)", x.set(-1), BAD);
        due("7 set(MAX)", x.set(Integer.MAX_VALUE), BAD);
        due("6 arrows()", x.arrows(), 5);
        x.fire(1);
        due("6 behind fire", x.arrows(), 6);
        due("7 refused, log stays", x.set(9) == BAD ? x.count(2) : -99, 1);
        due("7 set(6), what is so", x.set(6), 6);
        due("7 log is empty all the same", x.count(2), 0);
        due("7 set(7)", x.set(7), 6);
        ArrowTurner none = new ArrowTurner();
        due("7 set(0) without edges", none.set(0), 0);
        due("7 set(1) without edges", none.set(1), BAD);
    }

    private static void ends() {
        ArrowTurner x = Check.net("5;01;12;13");
        due("8 ends(0, 0)", x.ends(0, 0), 1);
        due("8 ends(0, 1)", x.ends(0, 1), 4 + 8);
        due("8 ends(1, 0)", x.ends(1, 0), 2);
        due("8 ends(1, 1)", x.ends(1, 1), 1 + 4 + 8);
        due("8 ends(6, 0)", x.ends(6, 0), 1 + 4 + 8);
        due("8 ends(6, 1)", x.ends(6, 1), 2);
        due("8 ends(8, 0)", x.ends(8, 0), BAD);
        due("8 ends(-1, 1)", x.ends(-1, 1), BAD);
        due("8 ends(0, 2)", x.ends(0, 2), BAD);
        due("8 ends(0, -1)", x.ends(0, -1), BAD);
        ArrowTurner round = Check.net("4;01;12;20;32");
        due("8 a ROUND, a source", round.ends(12, 0), 8);
        due("8 a ROUND, no sink", round.ends(12, 1), 0);
        due("8 a ROUND, a sink", round.ends(4, 1), 8);
        due("8 a ROUND, no source", round.ends(4, 0), 0);
    }

    private static void free() {
        ArrowTurner x = Check.net("3;01;12;02");
        for (int a = 0; a < 8; a++) {
            due("9 free(" + a + ")", x.free(a), a == 3 || a == 4 ? 0 : 1);
        }
        due("9 free(8)", x.free(8), BAD);
        due("9 free(-1)", x.free(-1), BAD);
        ArrowTurner long7 = Check.net("7;01;12;23;34;45;56;06");
        for (int a = 0; a < 128; a++) {
            due("9 free(" + a + ") of 7", long7.free(a), a == 63 || a == 64 ? 0 : 1);
        }
        ArrowTurner tail = Check.net("7;45;56;64;34;23;01");
        due("9 a ROUND with a tail", tail.free(tail.arrows()), 0);
        due("9 with a tail to it", tail.free(tail.arrows() ^ 8), 0);
        due("9 no ROUND", tail.free(tail.arrows() ^ 1), 1);
        ArrowTurner none = new ArrowTurner();
        due("9 without edges", none.free(0), 1);
        due("9 without edges", none.free(1), BAD);
    }
}
