/** Promises 22 to 26: distance, step, far, ways, trip. */
public final class FiringsTest {
    private static final Check CHECK = new Check("FiringsTest");
    private static final int BAD = -1, NOT = -2;
    private static final long NO = Long.MIN_VALUE;
    /** EDGES from 0 to 1, 2, 3: 0 and all others take turns. */
    private static final ArrowTurner STAR = Check.net("4;01;02;03");
    /** A ring of three with a tail that leads to it; 12: the ROUND. */
    private static final ArrowTurner TAIL = Check.net("4;01;12;02;30");

    private static void due(String call, long got, long want) {
        CHECK.due(call, got, want);
    }

    public static void main(String[] args) {
        distance();
        step();
        far();
        ways();
        trip();
        CHECK.end();
    }

    private static void distance() {
        due("22 distance(0, 0)", STAR.distance(0, 0), 0);
        due("22 distance(0, 7)", STAR.distance(0, 7), 1);
        due("22 distance(7, 0)", STAR.distance(7, 0), 3);
        due("22 distance(6, 5)", STAR.distance(6, 5), 4);
        due("22 distance(7, 6)", STAR.distance(7, 6), 1);
        due("22 distance(6, 7)", STAR.distance(6, 7), 3);
        due("22 distance(8, 0)", STAR.distance(8, 0), BAD);
        due("22 distance(0, 8)", STAR.distance(0, 8), BAD);
        due("22 distance(-1, 0)", STAR.distance(-1, 0), BAD);
        due("22 distance(0, -1)", STAR.distance(0, -1), BAD);
        due("22 a ROUND, the tail", TAIL.distance(12, 4), 1);
        due("22 a ROUND, back", TAIL.distance(4, 12), NOT);
        due("22 a ROUND, itself", TAIL.distance(4, 4), 0);
        due("22 from a ROUND", TAIL.distance(12, 0), NOT);
        ArrowTurner ring = Check.net("3;01;12;02");
        due("22 of two classes", ring.distance(0, 1), NOT);
        due("22 of one", ring.distance(0, 6), 2);
        due("22 of one", ring.distance(6, 5), 2);
        due("22 without edges", new ArrowTurner().distance(0, 0), 0);
        due("22 without edges", new ArrowTurner().distance(0, 1), BAD);
        due("22 changes nothing", STAR.arrows(), 0);
        due("22 changes nothing", STAR.count(2), 0);
    }

    private static void step() {
        due("23 step(0, 0)", STAR.step(0, 0), NOT);
        due("23 step(0, 7)", STAR.step(0, 7), 0);
        due("23 step(7, 0)", STAR.step(7, 0), 1);
        due("23 step(7, 1)", STAR.step(7, 1), 2);
        due("23 step(7, 3)", STAR.step(7, 3), 3);
        due("23 step(8, 0)", STAR.step(8, 0), BAD);
        due("23 step(0, 8)", STAR.step(0, 8), BAD);
        due("23 step(-1, 0)", STAR.step(-1, 0), BAD);
        due("23 a ROUND", TAIL.step(12, 4), 3);
        due("23 a ROUND, none", TAIL.step(4, 12), NOT);
        due("23 a ROUND, itself", TAIL.step(12, 12), NOT);
        due("23 two parts", Check.net("4;01;23").step(0, 2), 2);
        due("23 two parts", Check.net("4;01;23").step(0, 3), 0);
        due("23 two parts", Check.net("4;32;01").step(1, 2), 0);
    }

    private static void far() {
        due("24 far(7, 0)", STAR.far(7, 0), 3);
        due("24 far(7, 1)", STAR.far(7, 1), 0);
        due("24 far(0, 0)", STAR.far(0, 0), 3);
        due("24 far(0, 1), the least of three", STAR.far(0, 1), 1);
        due("24 far(6, 0)", STAR.far(6, 0), 5);
        due("24 far(6, 1)", STAR.far(6, 1), 1);
        due("24 far(8, 0)", STAR.far(8, 0), BAD);
        due("24 far(-1, 0)", STAR.far(-1, 0), BAD);
        due("24 far(0, 2)", STAR.far(0, 2), BAD);
        due("24 far(0, -1)", STAR.far(0, -1), BAD);
        due("24 none to come to", TAIL.far(4, 0), 0);
        due("24 itself counts", TAIL.far(4, 1), 4);
        due("24 a ROUND", TAIL.far(12, 0), 1);
        due("24 a ROUND", TAIL.far(12, 1), 4);
        due("24 without edges", new ArrowTurner().far(0, 0), 0);
        due("24 without edges", new ArrowTurner().far(0, 1), 0);
    }

    private static void ways() {
        long[] want = {1, 3, 6, 6, 6, 18};
        for (int n = 0; n < want.length; n++) {
            due("25 ways(7, " + n + ")", STAR.ways(7, n), want[n]);
        }
        due("25 ways(0, 12)", STAR.ways(0, 12), 6 * 6 * 6);
        due("25 ways(0, 13)", STAR.ways(0, 13), NO);
        due("25 ways(0, -1)", STAR.ways(0, -1), NO);
        due("25 ways(8, 0)", STAR.ways(8, 0), NO);
        due("25 ways(-1, 0)", STAR.ways(-1, 0), NO);
        due("25 none at all", TAIL.ways(4, 0), 1);
        due("25 none at all", TAIL.ways(4, 1), 0);
        due("25 a ROUND", TAIL.ways(12, 1), 1);
        due("25 a ROUND", TAIL.ways(12, 2), 0);
        due("25 two parts", Check.net("4;01;23").ways(0, 12), 4096);
        due("25 three parts", Check.net("6;01;23;45").ways(0, 12), 531441);
        due("25 without edges", new ArrowTurner().ways(0, 0), 1);
        due("25 without edges", new ArrowTurner().ways(0, 5), 0);
    }

    private static void trip() {
        due("26 trip(0)", STAR.trip(0), 4);
        due("26 trip(5)", STAR.trip(5), 4);
        due("26 trip(8)", STAR.trip(8), BAD);
        due("26 trip(-1)", STAR.trip(-1), BAD);
        due("26 a ROUND", TAIL.trip(4), NOT);
        due("26 a ROUND with a source", TAIL.trip(12), NOT);
        due("26 all seven", Check.net("7;01;12;23;34;45;56").trip(9), 7);
        due("26 the lesser part", Check.net("6;01;12;23;45").trip(0), 2);
        due("26 the other part", Check.net("7;01;12;02;34;45").trip(4), 3);
        due("26 without edges", new ArrowTurner().trip(0), NOT);
        due("26 without edges", new ArrowTurner().trip(1), BAD);
        // A ROUND in one part; the other part comes back.
        due("26 a ROUND elsewhere", Check.net("5;01;12;20;34").trip(4), 2);
    }
}
