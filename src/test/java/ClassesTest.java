/** Promises 15 to 21: flow, alike, many, ofClass, place, rooted, tutte. */
public final class ClassesTest {
    private static final Check CHECK = new Check("ClassesTest");
    private static final int BAD = -1, NOT = -2;
    private static final long NO = Long.MIN_VALUE;

    private static void due(String call, long got, long want) {
        CHECK.due(call, got, want);
    }

    public static void main(String[] args) {
        flow();
        alike();
        classes();
        order();
        rooted();
        tutte();
        behindChanges();
        CHECK.end();
    }

    private static void flow() {
        ArrowTurner x = Check.net("3;01;12;02");
        int[] want = {-1, 1, 1, 3, -3, -1, -1, 1};
        for (int a = 0; a < 8; a++) {
            due("15 flow(" + a + ", 2)", x.flow(a, 2), want[a]);
        }
        due("15 flow(0, 0), of TREE", x.flow(0, 0), NO);
        due("15 flow(0, 1), of TREE", x.flow(0, 1), NO);
        due("15 flow(0, 3)", x.flow(0, 3), NO);
        due("15 flow(0, -1)", x.flow(0, -1), NO);
        due("15 flow(8, 2)", x.flow(8, 2), NO);
        due("15 flow(-1, 2)", x.flow(-1, 2), NO);

        // The chord comes ahead of an EDGE of TREE; its RING does not go over the other parts.
        ArrowTurner y = Check.net("6;20;21;10;34;45;53;03");
        due("15 chords", y.count(5), 2);
        due("15 the EDGE behind is of TREE", y.flow(0, 6), NO);
        due("15 flow(0, 2)", y.flow(0, 2), 1 - 1 + 1);
        due("15 flow(4, 2)", y.flow(4, 2), -1);
        due("15 flow(0, 5)", y.flow(0, 5), 1 - 1 - 1);
        due("15 flow(32, 5), a ROUND", y.flow(32, 5), -3);

        // Parts of TREE that are joined late, in the middle of both.
        ArrowTurner late = Check.net("7;01;12;34;45;14;05;23;60");
        due("15 joined late, chords", late.count(5), 2);
        due("15 joined late", late.flow(0, 5), 1 - 1 - 1 - 1);
        due("15 joined late", late.flow(0, 6), 1 + 1 - 1 + 1);
        due("15 joined late", late.flow(1 << 4 | 1 << 5, 5), -1 - 1 + 1 - 1);
        due("15 a chord no more", Check.net("7;01;12;34;45;05;60").flow(0, 4), NO);

        ArrowTurner z = Check.net("7;01;12;23;34;45;56;06");
        due("15 a RING of 7", z.flow(63, 6), 7);
        due("15 a RING of 7, against", z.flow(64, 6), -7);
        due("15 a RING of 7", z.flow(0, 6), -5);
    }

    private static void alike() {
        ArrowTurner x = Check.net("3;01;12;02");
        int[] kind = {0, 1, 1, 2, 3, 0, 0, 1};
        for (int a = 0; a < 8; a++) {
            for (int b = 0; b < 8; b++) {
                boolean alike = kind[a] == kind[b] && kind[a] < 2;
                due("16 alike(" + a + ", " + b + ")", x.alike(a, b), alike ? 1 : 0);
            }
        }
        due("16 alike(8, 0)", x.alike(8, 0), BAD);
        due("16 alike(0, 8)", x.alike(0, 8), BAD);
        due("16 alike(-1, 0)", x.alike(-1, 0), BAD);
        due("16 alike(0, -1)", x.alike(0, -1), BAD);
        due("16 a tree", Check.net("4;01;12;13").alike(0, 7), 1);
        // Two RINGS: the first FLOW is the same, the second is not.
        ArrowTurner y = Check.net("4;01;12;02;23;13");
        due("16 two chords", y.count(5), 2);
        due("16 flows of 0", y.flow(0, 2) * 10 + y.flow(0, 4), -1 * 10 - 1);
        due("16 flows of 8", y.flow(8, 2) * 10 + y.flow(8, 4), -1 * 10 + 1);
        due("16 alike(0, 8)", y.alike(0, 8), 0);
        due("16 alike(0, 5), fired", y.alike(0, 5), 1);
        // A ROUND by CHORDS alone, that is none of the RINGS.
        ArrowTurner wheel = Check.net("4;01;02;03;12;23;31");
        due("16 flows", wheel.flow(32, 3) * 100 + wheel.flow(32, 4) * 10 + wheel.flow(32, 5), 109);
        due("16 alike(32, 32), a ROUND", wheel.alike(32, 32), 0);
        due("16 alike(0, 0)", wheel.alike(0, 0), 1);
    }

    private static void classes() {
        ArrowTurner x = Check.net("3;01;12;02");
        due("17 many(0)", x.many(0), 6);
        due("17 many(1)", x.many(1), 2);
        due("17 many(2)", x.many(2), BAD);
        due("17 many(-1)", x.many(-1), BAD);
        due("18 ofClass(0, 0)", x.ofClass(0, 0), 3);
        due("18 ofClass(0, 1)", x.ofClass(0, 1), 0);
        due("18 ofClass(1, 0)", x.ofClass(1, 0), 3);
        due("18 ofClass(1, 1)", x.ofClass(1, 1), 1);
        due("18 ofClass(2, 0)", x.ofClass(2, 0), NOT);
        due("18 ofClass(2, 1)", x.ofClass(2, 1), NOT);
        due("18 ofClass(-1, 0)", x.ofClass(-1, 0), BAD);
        due("18 ofClass(0, 2)", x.ofClass(0, 2), BAD);
        due("18 ofClass(9, 2)", x.ofClass(9, 2), BAD);
        due("18 ofClass(9, -1)", x.ofClass(9, -1), BAD);
        int[] want = {0, 1, 1, NOT, NOT, 0, 0, 1};
        for (int a = 0; a < 8; a++) {
            due("19 place(" + a + ")", x.place(a), want[a]);
        }
        due("19 place(8)", x.place(8), BAD);
        due("19 place(-1)", x.place(-1), BAD);
        ArrowTurner none = new ArrowTurner();
        due("17 many(0) without edges", none.many(0), 1);
        due("17 many(1) without edges", none.many(1), 1);
        due("18 ofClass(0, 0) without edges", none.ofClass(0, 0), 1);
        due("18 ofClass(0, 1) without edges", none.ofClass(0, 1), 0);
        due("18 ofClass(1, 0) without edges", none.ofClass(1, 0), NOT);
        due("19 place(0) without edges", none.place(0), 0);
        ArrowTurner tree = Check.net("4;01;02;03");
        due("17 a tree", tree.many(0), 8);
        due("17 a tree", tree.many(1), 1);
        due("18 a tree", tree.ofClass(0, 0), 8);
    }

    /** A ring of 4: one against the rest: 4 and 4; two and two: 6. The greatest comes first. */
    private static void order() {
        ArrowTurner x = Check.net("4;01;12;23;03");
        due("18 SIZE of 0", x.ofClass(0, 0), 6);
        due("18 HEAD of 0", x.ofClass(0, 1), 1);
        due("18 SIZE of 1", x.ofClass(1, 0), 4);
        due("18 HEAD of 1", x.ofClass(1, 1), 0);
        due("18 SIZE of 2", x.ofClass(2, 0), 4);
        due("18 HEAD of 2", x.ofClass(2, 1), 3);
        due("18 no more", x.ofClass(3, 0), NOT);
        due("19 place(0)", x.place(0), 1);
        due("19 place(1)", x.place(1), 0);
        due("19 place(3)", x.place(3), 2);
        due("19 place(7), a ROUND", x.place(7), NOT);
        due("19 place(15)", x.place(15), 2);
        ArrowTurner k5 = Check.net("5;01;02;03;04;12;13;14;23;24;34");
        due("17 K5 many(0)", k5.many(0), 120);
        due("17 K5 many(1)", k5.many(1), 24);
        int sum = 0;
        for (int k = 0; k < 24; k++) {
            due("18 K5 SIZE", k5.ofClass(k, 0), 5);
            due("19 K5 place of a HEAD", k5.place(k5.ofClass(k, 1)), k);
            sum += k5.ofClass(k, 0);
            if (k > 0) {
                CHECK.that("18 K5 HEADS rise", k5.ofClass(k, 1) > k5.ofClass(k - 1, 1));
            }
        }
        due("18 K5 all", sum, 120);
    }

    private static void rooted() {
        ArrowTurner x = Check.net("3;01;12;02");
        for (int v = 0; v < 3; v++) {
            due("20 rooted(" + v + ")", x.rooted(v), 2);
        }
        due("20 rooted(3)", x.rooted(3), BAD);
        due("20 rooted(-1)", x.rooted(-1), BAD);
        // The ROUND with a SOURCE ahead of it does not count.
        ArrowTurner y = Check.net("5;01;12;02;30");
        due("20 rooted(3)", y.rooted(3), 2);
        due("20 rooted(0)", y.rooted(0), 2);
        due("20 rooted(4), no edges", y.rooted(4), 0);
        ArrowTurner two = Check.net("4;01;23");
        due("20 two parts", two.rooted(0), 0);
        due("20 without edges", new ArrowTurner().rooted(0), 0);
        ArrowTurner k5 = Check.net("5;01;02;03;04;12;13;14;23;24;34");
        due("20 K5", k5.rooted(4), 24);
    }

    private static void tutte() {
        ArrowTurner x = Check.net("3;01;12;02");
        for (int a = 0; a <= 9; a++) {
            for (int b = 0; b <= 9; b++) {
                due("21 a triangle, " + a + ", " + b, x.tutte(a, b), a * a + a + b);
            }
        }
        due("21 tutte(10, 0)", x.tutte(10, 0), BAD);
        due("21 tutte(0, 10)", x.tutte(0, 10), BAD);
        due("21 tutte(-1, 0)", x.tutte(-1, 0), BAD);
        due("21 tutte(0, -1)", x.tutte(0, -1), BAD);
        due("21 without edges", new ArrowTurner().tutte(0, 0), 1);
        due("21 without edges", new ArrowTurner().tutte(9, 9), 1);
        due("21 a tree", Check.net("7;01;12;23;34;45;56").tutte(9, 0), 531441);
        due("21 a tree", Check.net("4;01;12;23").tutte(0, 9), 0);
        due("21 two parts", Check.net("6;01;12;02;34").tutte(3, 2), 3 * (9 + 3 + 2));
        ArrowTurner k4 = Check.net("4;01;02;03;12;13;23");
        for (int a = 0; a <= 9; a++) {
            for (int b = 0; b <= 9; b++) {
                int want = a * a * a + 3 * a * a + 2 * a + 4 * a * b + 2 * b + 3 * b * b + b * b * b;
                due("21 K4, " + a + ", " + b, k4.tutte(a, b), want);
            }
        }
        ArrowTurner k5 = Check.net("5;01;02;03;04;12;13;14;23;24;34");
        due("21 K5, trees", k5.tutte(1, 1), 125);
        due("21 K5, arrowings", k5.tutte(2, 0), 120);
        due("21 K5, classes", k5.tutte(1, 0), 24);
        due("21 K5, all sets", k5.tutte(2, 2), 1024);
        due("21 K5, all that joins", k5.tutte(1, 2), 728);
    }

    /** What was worked out for one NET must not be told of another. */
    private static void behindChanges() {
        ArrowTurner x = Check.net("4;01;12;02");
        due("17 many(1)", x.many(1), 2);
        due("21 tutte", x.tutte(2, 0), 6);
        x.image();
        x.edge(2, 3);
        due("17 behind edge", x.many(0), 12);
        due("21 behind edge", x.tutte(2, 0), 12);
        x.cut(0);
        due("17 behind cut", x.many(0), 8);
        due("17 behind cut", x.many(1), 1);
        due("21 behind cut", x.tutte(2, 0), 8);
        x.undo();
        due("17 behind undo", x.many(0), 6);
        due("17 behind undo", x.many(1), 2);
        due("21 behind undo", x.tutte(2, 0), 6);
        due("18 behind undo", x.ofClass(0, 0), 3);
        due("19 behind undo", x.place(1), 1);
        x.cut(0);
        due("19 behind cut, first", x.place(1), 0);
        x.undo();
        due("20 behind undo, first", x.rooted(2), 2);
        x.cut(1);
        due("18 behind cut, first", x.ofClass(0, 0), 4);
        x.nodes(2);
        due("17 behind nodes", x.many(0), 1);
        due("21 behind nodes", x.tutte(2, 0), 1);
        Check.feed(x, "3;01");
        x.read();
        due("17 behind read", x.many(0), 2);
        due("20 behind read", x.rooted(1), 1);
        due("21 behind read", x.tutte(7, 0), 7);
    }
}
