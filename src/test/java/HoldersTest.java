/** Promises 38 to 47: hold, drop, taken, row, put, get, judge, image, undo, count. */
public final class HoldersTest {
    private static final Check CHECK = new Check("HoldersTest");
    private static final int BAD = -1, NOT = -2, STATE = -5;
    private static final int NOTHING = -11, OTHER = -12, NO_PLACE = -13, BELOW = -14;
    private static final long NO = Long.MIN_VALUE;

    private static void due(String call, long got, long want) {
        CHECK.due(call, got, want);
    }

    public static void main(String[] args) {
        hold();
        drop();
        taken();
        row();
        putAndGet();
        judge();
        image();
        count();
        CHECK.end();
    }

    private static void hold() {
        ArrowTurner x = Check.net("3;01;12");
        due("38 hold(0, 0, 3)", x.hold(0, 0, 3), 3);
        due("38 hold(5, 1, 321)", x.hold(5, 1, 321), 321);
        due("38 hold(6, 0, 0)", x.hold(6, 0, 0), BAD);
        due("38 hold(-1, 0, 0)", x.hold(-1, 0, 0), BAD);
        due("38 hold(0, 2, 0)", x.hold(0, 2, 0), BAD);
        due("38 hold(0, -1, 0)", x.hold(0, -1, 0), BAD);
        due("38 hold(0, 2, 321)", x.hold(0, 2, 321), BAD);
        due("38 hold(0, -1, 321)", x.hold(0, -1, 321), BAD);
        due("38 hold(0, 0, 4)", x.hold(0, 0, 4), BAD);
        due("38 hold(0, 0, -1)", x.hold(0, 0, -1), BAD);
        due("38 hold(0, 0, 123), a word", x.hold(0, 0, 123), BAD);
        due("38 hold(0, 1, 3), an arrowing", x.hold(0, 1, 3), BAD);
        due("38 hold(0, 1, 1234)", x.hold(0, 1, 1234), BAD);
        due("38 refused: as it was", x.taken(0, 0), 3);
        due("38 in place of what was", x.hold(0, 1, 213), 213);
        due("38 it is a word", x.taken(0, 2), 3);
        x.row(1, 2);
        due("38 in place of a row", x.hold(1, 0, 2), 2);
        due("38 it is no row", x.put(1, 0, 1), OTHER);
    }

    private static void drop() {
        ArrowTurner x = Check.net("3;01;12");
        x.hold(0, 0, 3);
        x.hold(1, 1, 321);
        x.row(2, 0);
        for (int h = 0; h < 4; h++) {
            due("39 drop(" + h + ")", x.drop(h), (h + 1) % 4);
            due("39 drop(" + h + ") again", x.drop(h), 0);
            due("39 nothing there", x.taken(h, 0), NOTHING);
        }
        due("39 drop(6)", x.drop(6), BAD);
        due("39 drop(-1)", x.drop(-1), BAD);
    }

    private static void taken() {
        ArrowTurner x = Check.net("5;01;12");
        x.hold(0, 0, 3);
        x.hold(1, 1, 54321);
        x.row(2, 3);
        int[][] want = {{3, 2, OTHER}, {54321, OTHER, 5}, {OTHER, OTHER, OTHER}, {NOTHING, NOTHING, NOTHING}};
        for (int again = 0; again < 2; again++) {
            for (int h = 0; h < 4; h++) {
                for (int kind = 0; kind < 3; kind++) {
                    due("40 taken(" + h + ", " + kind + ")", x.taken(h, kind), want[h][kind]);
                }
            }
            // What is held stays as it was, whatever THE NET is.
            x.nodes(2);
        }
        due("40 taken(0, 3)", x.taken(0, 3), BAD);
        due("40 taken(0, -1)", x.taken(0, -1), BAD);
        due("40 taken(3, 3), nothing", x.taken(3, 3), BAD);
        due("40 taken(6, 0)", x.taken(6, 0), BAD);
        due("40 taken(-1, 0)", x.taken(-1, 0), BAD);
    }

    private static void row() {
        ArrowTurner x = new ArrowTurner();
        due("41 row(0, 20)", x.row(0, 20), 20);
        due("41 row(0, 21)", x.row(0, 21), BAD);
        due("41 row(0, -1)", x.row(0, -1), BELOW);
        due("41 row(0, MIN)", x.row(0, Integer.MIN_VALUE), BELOW);
        due("41 row(6, -1)", x.row(6, -1), BAD);
        due("41 row(-1, 3)", x.row(-1, 3), BAD);
        due("41 row(6, 21)", x.row(6, 21), BAD);
        due("41 refused: as it was", x.put(0, 19, 5), 1);
        due("41 get(0, 19)", x.get(0, 19), 5);
        due("41 row(0, 20) again", x.row(0, 20), 20);
        due("41 all 0", x.get(0, 19), 0);
        x.put(0, 0, 6);
        x.row(0, 1);
        due("41 all 0", x.get(0, 0), 0);
        x.row(0, 20);
        due("41 row(0, 0)", x.row(0, 0), 0);
        due("41 no place in it", x.put(0, 0, 1), NO_PLACE);
        due("41 a row, though", x.drop(0), 3);
        x.hold(1, 1, 1234);
        due("41 in place of a word", x.row(1, 1), 1);
        due("41 in place of a word", x.get(1, 0), 0);
        due("41 no word any more", x.taken(1, 0), OTHER);
    }

    private static void putAndGet() {
        ArrowTurner x = Check.net("3;01");
        x.row(0, 3);
        x.row(1, 3);
        x.hold(2, 0, 1);
        x.hold(3, 1, 123);
        due("42 put(0, 0, MIN)", x.put(0, 0, Integer.MIN_VALUE), 1);
        due("42 put(0, 2, MAX)", x.put(0, 2, Integer.MAX_VALUE), 1);
        due("43 get(0, 0)", x.get(0, 0), Integer.MIN_VALUE);
        due("43 get(0, 1)", x.get(0, 1), 0);
        due("43 get(0, 2)", x.get(0, 2), Integer.MAX_VALUE);
        due("43 another row", x.get(1, 2), 0);
        int[] places = {-1, 3, 20, Integer.MAX_VALUE, Integer.MIN_VALUE};
        for (int i : places) {
            due("42 put(0, " + i + ", 7)", x.put(0, i, 7), NO_PLACE);
            due("43 get(0, " + i + ")", x.get(0, i), NO);
            due("42 nothing there, first", x.put(4, i, 7), NOTHING);
            due("42 no row, first", x.put(2, i, 7), OTHER);
        }
        due("42 put(6, 0, 7)", x.put(6, 0, 7), BAD);
        due("42 put(-1, 0, 7)", x.put(-1, 0, 7), BAD);
        due("42 put(3, 0, 7), a word", x.put(3, 0, 7), OTHER);
        due("43 get(2, 0)", x.get(2, 0), NO);
        due("43 get(3, 0)", x.get(3, 0), NO);
        due("43 get(4, 0)", x.get(4, 0), NO);
        due("43 get(6, 0)", x.get(6, 0), NO);
        due("43 get(-1, 0)", x.get(-1, 0), NO);
        due("42 refused: as it was", x.taken(2, 0), 1);
    }

    private static void judge() {
        ArrowTurner x = Check.net("4;01;12;02;23;13");
        x.row(0, 2);
        x.put(0, 0, -1);
        x.put(0, 1, -1);
        due("44 judge(0, 0), all is so", x.judge(0, 0), NOT);
        due("44 judge(0, 8), the second is not", x.judge(0, 8), 1);
        due("44 judge(0, 2), the first is not", x.judge(0, 2), 0);
        x.put(0, 0, -3);
        due("44 a ROUND, the second", x.judge(0, 4), NOT);
        due("44 a ROUND, and else", x.judge(0, 12), 1);
        x.row(1, 1);
        x.put(1, 0, -1);
        due("44 no number any more", x.judge(1, 0), 1);
        x.put(1, 0, 0);
        due("44 otherwise ahead of that", x.judge(1, 0), 0);
        x.row(2, 0);
        due("44 no number at all", x.judge(2, 0), 0);
        x.row(3, 3);
        x.put(3, 0, -1);
        x.put(3, 1, -1);
        due("44 longer", x.judge(3, 0), 2);
        x.put(3, 1, 1);
        due("44 longer, and otherwise", x.judge(3, 0), 1);
        due("44 judge(4, 0)", x.judge(4, 0), NOTHING);
        x.hold(4, 0, 5);
        due("44 judge(4, 0), an arrowing", x.judge(4, 0), OTHER);
        x.hold(4, 1, 1234);
        due("44 judge(4, 0), a word", x.judge(4, 0), OTHER);
        due("44 judge(4, 32)", x.judge(4, 32), BAD);
        due("44 judge(5, -1)", x.judge(5, -1), BAD);
        due("44 judge(6, 0)", x.judge(6, 0), BAD);
        due("44 judge(-1, 0)", x.judge(-1, 0), BAD);
        x.nodes(3);
        due("44 no chords, no numbers", x.judge(2, 0), NOT);
        due("44 no chords, numbers", x.judge(3, 0), 0);
    }

    private static void image() {
        ArrowTurner x = Check.net("4;01;12;02");
        x.firer(1, 0);
        x.fire(0);
        x.fire(1);
        x.feed('9', 1);
        x.hold(0, 0, 5);
        due("46 undo(), none kept", x.undo(), STATE);
        due("45 image()", x.image(), 3);
        for (int again = 0; again < 2; again++) {
            x.firer(5, 6);
            x.fire(2);
            x.nodes(6);
            x.edge(5, 4);
            x.row(0, 4);
            x.wipe();
            due("46 undo()", x.undo(), 3);
            due("46 N", x.count(0), 4);
            due("46 EDGES", x.count(1), 3);
            due("46 THE LOG", x.count(2), 2);
            due("46 FIRERS", x.count(3), 1);
            due("46 THE TAPE is not kept", x.count(4), 0);
            due("46 HOLDERS are not kept", x.drop(0), 3);
            due("46 CHORDS", x.count(5), 1);
            due("46 THE NET", Check.spelled(x).equals("4;10;21;20") ? 1 : 0, 0);
            due("46 THE NET", Check.spelled(x).equals("4;01;21;20") ? 1 : 0, 1);
            due("46 the newest deed", x.log(1, 0), 1);
            due("46 FLOW", x.flow(0, 2), -1);
            due("33 the FIRER", x.runs(0, 1, 10), 2);
        }
        due("12 back", x.back(), 5);
        x.undo();
        due("46 THE IMAGE stays", x.arrows(), 6);
        x.cut(2);
        due("45 image() again", x.image(), 2);
        x.edge(0, 2);
        due("46 undo() to the newer one", x.undo(), 2);
        due("46 EDGES", x.count(1), 2);
        due("46 THE LOG", x.count(2), 0);
        x.set(0);
        due("46 undo() behind set", x.undo(), 2);
        due("46 THE ARROWS", x.arrows(), 2);
        ArrowTurner none = new ArrowTurner();
        due("45 image() without edges", none.image(), 0);
        due("46 undo() without edges", none.undo(), 0);
    }

    private static void count() {
        ArrowTurner x = Check.net("6;01;12;02;34;45;53");
        x.fire(0);
        x.fire(1);
        x.fire(2);
        x.firer(0, 0);
        x.feed(0, 4);
        int[] want = {6, 6, 3, 1, 4, 2};
        for (int what = 0; what < 6; what++) {
            due("47 count(" + what + ")", x.count(what), want[what]);
        }
        due("47 count(6)", x.count(6), BAD);
        due("47 count(-1)", x.count(-1), BAD);
        due("47 count(MIN)", x.count(Integer.MIN_VALUE), BAD);
    }
}
