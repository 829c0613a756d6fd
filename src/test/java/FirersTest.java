/** Promises 32 and 33: firer, runs. */
public final class FirersTest {
    private static final Check CHECK = new Check("FirersTest");
    private static final int BAD = -1, NOT = -2, FULL = -3;
    private static final int FIRST = 0, LAST = 1, FROM = 2, RARE = 3, WIDE = 4, OFTEN = 5;

    private static void due(String call, long got, long want) {
        CHECK.due(call, got, want);
    }

    /** The first nodes that one FIRER of a KIND fires, as digits. */
    private static void fires(String net, int kind, int v, String want) {
        ArrowTurner x = Check.net(net);
        due("32 firer", x.firer(kind, v), 0);
        for (int k = 0; k < want.length(); k++) {
            String call = "33 " + net + ", kind " + kind + ", v " + v + ", the " + k + "th";
            due(call, x.runs(0, want.length(), 10 + k), want.charAt(k) - '0');
        }
        due("33 how many", x.runs(0, want.length(), 1), want.length());
        for (int node = 0; node < x.count(0); node++) {
            char digit = (char) ('0' + node);
            due("33 how often", x.runs(0, want.length(), 60 + node),
                    want.chars().filter(c -> c == digit).count());
        }
        due("33 the arrows stay", Check.spelled(x).equals(net) ? 1 : 0, 1);
        due("33 no deed", x.count(2), 0);
    }

    public static void main(String[] args) {
        firer();
        kinds();
        runs();
        CHECK.end();
    }

    private static void firer() {
        ArrowTurner x = new ArrowTurner();
        due("32 firer(-1, 0)", x.firer(-1, 0), BAD);
        due("32 firer(6, 0)", x.firer(6, 0), BAD);
        due("32 firer(0, -1)", x.firer(0, -1), BAD);
        due("32 firer(0, 7), v is of no use", x.firer(0, 7), BAD);
        due("32 count(3)", x.count(3), 0);
        due("32 firer(5, 6)", x.firer(5, 6), 0);
        due("32 firer(0, 0)", x.firer(0, 0), 1);
        due("32 firer(2, 5)", x.firer(2, 5), 2);
        due("32 firer(4, 1)", x.firer(4, 1), 3);
        due("32 firer(1, 0), a fifth", x.firer(1, 0), FULL);
        due("32 firer(6, 0), a fifth", x.firer(6, 0), BAD);
        due("32 firer(1, 7), a fifth", x.firer(1, 7), BAD);
        due("32 count(3)", x.count(3), 4);
        x.nodes(2);
        x.edge(0, 1);
        due("32 stay behind nodes", x.count(3), 4);
        due("33 v is no node", x.runs(2, 1, 10), 0);
    }

    private static void kinds() {
        String parts = "6;01;23;45";
        fires(parts, FIRST, 3, "010101");
        fires(parts, LAST, 0, "454545");
        fires(parts, FROM, 2, "232323");
        fires(parts, FROM, 3, "454545");
        fires(parts, FROM, 5, "010101");
        fires("6;01;23;54", FROM, 5, "501010");
        fires(parts, FROM, 0, "010101");
        fires(parts, RARE, 0, "452301" + "452301");
        fires(parts, OFTEN, 0, "454545");
        fires("7;20;31;41;51", FIRST, 0, "20202020");
        fires("7;20;31;41;51", OFTEN, 0, "543215431543");
        fires("7;20;31;41;51", RARE, 0, "54321054");
        fires("7;20;31;41;51", WIDE, 0, "202020");
        fires("7;20;31;41;51", WIDE, 4, "45202020");
        fires("7;02;13;14;15", WIDE, 5, "1502020");
        fires("7;02;13;14;15", WIDE, 3, "13451345");
        fires("4;10;12;13", WIDE, 3, "1302");
        // OFTEN goes on with what it has FIRED, where LAST takes a greater NODE.
        fires("6;01;12;34;45", OFTEN, 0, "3435435435");
    }

    private static void runs() {
        ArrowTurner x = Check.net("3;01;12");
        x.firer(FIRST, 0);
        x.firer(LAST, 6);
        due("33 runs(0, 0, 0)", x.runs(0, 0, 0), 0);
        due("33 runs(0, 0, 1)", x.runs(0, 0, 1), 0);
        due("33 runs(0, 0, 2)", x.runs(0, 0, 2), NOT);
        due("33 runs(0, 0, 10)", x.runs(0, 0, 10), NOT);
        due("33 runs(0, 1, 0)", x.runs(0, 1, 0), 1);
        due("33 runs(0, 2, 0)", x.runs(0, 2, 0), 2);
        due("33 runs(0, 3, 2)", x.runs(0, 3, 2), NOT);
        due("33 runs(0, 40, 2)", x.runs(0, 40, 2), NOT);
        due("33 runs(1, 2, 2)", x.runs(1, 2, 2), NOT);
        due("33 runs(1, 3, 2)", x.runs(1, 3, 2), 3);
        due("33 runs(1, 40, 2), the first time", x.runs(1, 40, 2), 3);
        due("33 runs(0, 40, 49)", x.runs(0, 40, 49), 2);
        due("33 runs(0, 40, 48)", x.runs(0, 40, 48), 0);
        due("33 runs(0, 39, 49)", x.runs(0, 39, 49), NOT);
        due("33 runs(0, 41, 0)", x.runs(0, 41, 0), BAD);
        due("33 runs(0, -1, 0)", x.runs(0, -1, 0), BAD);
        due("33 runs(2, 1, 0)", x.runs(2, 1, 0), BAD);
        due("33 runs(-1, 1, 0)", x.runs(-1, 1, 0), BAD);
        int[] wrong = {-1, 3, 9, 50, 59, 63, 67, Integer.MAX_VALUE, Integer.MIN_VALUE};
        for (int what : wrong) {
            due("33 runs(0, 9, " + what + ")", x.runs(0, 9, what), BAD);
        }
        due("33 runs(0, 3, 62)", x.runs(0, 3, 62), 0);
        due("33 runs(0, 4, 62)", x.runs(0, 4, 62), 1);
        due("33 runs(0, 4, 60)", x.runs(0, 4, 60), 2);

        ArrowTurner none = new ArrowTurner();
        none.firer(RARE, 0);
        due("33 no source, how many", none.runs(0, 40, 1), 0);
        due("33 no source, the arrows", none.runs(0, 40, 0), 0);
        due("33 no source, the same", none.runs(0, 40, 2), NOT);
        due("33 no source, a node", none.runs(0, 40, 63), 0);
        due("33 no source, none fired", none.runs(0, 40, 10), NOT);
        ArrowTurner round = Check.net("4;01;12;20;32");
        round.firer(WIDE, 0);
        due("33 a ROUND, how many", round.runs(0, 40, 1), 1);
        due("33 a ROUND, which", round.runs(0, 40, 10), 3);
        due("33 a ROUND, then", round.runs(0, 40, 11), NOT);
        due("33 a ROUND, the arrows", round.runs(0, 40, 0), 4);
        due("33 a ROUND, the same", round.runs(0, 40, 2), NOT);
        round.fire(3);
        due("33 THE ARROWS are first", round.runs(0, 40, 1), 0);
    }
}
