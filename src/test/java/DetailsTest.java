/** Details: a test for each of their sentences. */
public final class DetailsTest {
    private static final Check CHECK = new Check("DetailsTest");
    private static final int BAD = -1, NOT = -2, STATE = -5;

    private static void due(String call, long got, long want) {
        CHECK.due(call, got, want);
    }

    public static void main(String[] args) {
        backWhateverItIs();
        setLeavesTheLogEmpty();
        undoBringsTheLog();
        farCountsItself();
        tutteByWhatComesAtLast();
        runsWithANode();
        firersNeedV();
        firersStay();
        bytesAbove127();
        judgedFlowOfARound();
        CHECK.end();
    }

    private static void backWhateverItIs() {
        CHECK.says("BACK turns all EDGES of the NODE also if it is no SOURCE or SINK then");
        ArrowTurner x = Check.net("5;01;12;23;34");
        int[] deeds = {0, 1, 0, 2, 1};
        int[] arrows = new int[deeds.length];
        for (int k = 0; k < deeds.length; k++) {
            arrows[k] = x.arrows();
            due("fire(" + deeds[k] + ")", x.fire(deeds[k]) >= 0 ? 1 : 0, 1);
        }
        for (int k = deeds.length - 1; k >= 0; k--) {
            due("back() of " + deeds[k], x.back(), arrows[k]);
        }
        due("back() of nothing", x.back(), STATE);
        ArrowTurner drowned = Check.net("5;01;12;23;34");
        drowned.drown(4);
        drowned.drown(3);
        due("back() of a drowned one", drowned.back(), 8);
        due("back() of a drowned one", drowned.back(), 0);
        ArrowTurner thinned = Check.net("3;01;12");
        thinned.fire(0);
        thinned.fire(1);
        thinned.drown(1);
        thinned.thin();
        due("back() behind thin()", thinned.back(), 0);
        ArrowTurner undone = Check.net("3;01;12");
        undone.fire(0);
        undone.fire(1);
        undone.image();
        undone.nodes(7);
        undone.undo();
        due("back() behind undo()", undone.back(), 1);
        due("back() behind undo()", undone.back(), 0);
        due("back() of nothing", undone.back(), STATE);
    }

    private static void setLeavesTheLogEmpty() {
        CHECK.says("set() leaves THE LOG empty also if it sets what is so already");
        ArrowTurner x = Check.net("3;01;12");
        x.fire(0);
        due("set(1), what is so", x.set(1), 1);
        due("count(2)", x.count(2), 0);
        due("back()", x.back(), STATE);
        x.fire(1);
        due("set(3)", x.set(3), 2);
        due("count(2)", x.count(2), 0);
        x.drown(0);
        due("set(4), refused", x.set(4), BAD);
        due("count(2)", x.count(2), 1);
    }

    private static void undoBringsTheLog() {
        CHECK.says("undo() brings THE LOG of THE IMAGE");
        ArrowTurner x = Check.net("4;01;12");
        for (int k = 0; k < 26; k++) {
            x.fire(k % 3);
        }
        x.drown(1);
        String want = States.kept(x);
        x.image();
        x.set(0);
        due("count(2) behind set(0)", x.count(2), 0);
        x.undo();
        due("count(2) behind undo()", x.count(2), 24);
        CHECK.same("all of it", States.kept(x), want);
        due("the newest was drowned", x.log(23, 1), 1);
        x.image();
        x.undo();
        due("undo() of what is so already", x.count(2), 24);
        ArrowTurner empty = Check.net("2;01");
        empty.image();
        empty.fire(0);
        empty.undo();
        due("an empty one", empty.count(2), 0);
        due("arrows()", empty.arrows(), 0);
    }

    private static void farCountsItself() {
        CHECK.says("The NODE from which FAR is told counts itself, with 0");
        ArrowTurner x = Check.net("3;01;12;20");
        due("far(4, 0)", x.far(4, 0), 0);
        due("far(4, 1)", x.far(4, 1), 4);
        due("far(3, 1)", x.far(3, 1), 3);
        due("far(0, 0)", x.far(0, 0), 2);
    }

    private static void tutteByWhatComesAtLast() {
        CHECK.says("TUTTE is WIDE by what comes at last");
        // The greatest of all there can be with 7 NODES and 10 EDGES is far below 2147483647.
        due("tutte(9, 9)", Check.net("7;56;46;24;34;14;26;45;01;12;25").tutte(9, 9), 2706048);
        due("tutte(9, 9) of two parts", Check.net("7;01;02;03;12;13;23;45;46;56").tutte(9, 9), 2304 * 99);
    }

    private static void runsWithANode() {
        CHECK.says("runs() is BAD with a NODE that there is not");
        for (int n = 1; n <= 7; n++) {
            ArrowTurner x = new ArrowTurner();
            x.firer(0, 6);
            x.nodes(n);
            for (int v = -1; v <= 8; v++) {
                due("runs(0, 0, 60 and " + v + ") of " + n, x.runs(0, 0, 60 + v), v >= 0 && v < n ? 0 : BAD);
            }
        }
        ArrowTurner x = Check.net("3;01;12");
        x.firer(0, 0);
        due("the last NODE", x.runs(0, 40, 62), 13);
        due("one more", x.runs(0, 40, 63), BAD);
        x.nodes(7);
        due("it is there now", x.runs(0, 40, 63), 0);
    }

    private static void firersNeedV() {
        CHECK.says("FIRERS need a v of 0 .. 6 whatever their KIND is");
        for (int kind = 0; kind <= 5; kind++) {
            ArrowTurner x = new ArrowTurner();
            x.nodes(1);
            due("v -1, kind " + kind, x.firer(kind, -1), BAD);
            due("v 7, kind " + kind, x.firer(kind, 7), BAD);
            due("v MIN, kind " + kind, x.firer(kind, Integer.MIN_VALUE), BAD);
            due("v MAX, kind " + kind, x.firer(kind, Integer.MAX_VALUE), BAD);
            due("none came", x.count(3), 0);
            due("v 0, kind " + kind, x.firer(kind, 0), 0);
            due("v 6, kind " + kind, x.firer(kind, 6), 1);
        }
    }

    private static void firersStay() {
        CHECK.says("FIRERS .. stay behind nodes()");
        ArrowTurner x = new ArrowTurner();
        x.firer(1, 0);
        x.nodes(2);
        due("count(3)", x.count(3), 1);
        x.nodes(2);
        x.edge(1, 0);
        x.cut(0);
        x.edge(0, 1);
        x.set(1);
        due("count(3)", x.count(3), 1);
        due("it fires", x.runs(0, 40, 1), 40);
        due("the first one", x.runs(0, 40, 10), 1);
        due("the next number", x.firer(0, 0), 1);
    }

    private static void bytesAbove127() {
        CHECK.says("Bytes above 127 can be fed; they are a FAULT when they are read");
        for (int b = 128; b < 256; b++) {
            for (int at = 0; at < 4; at++) {
                ArrowTurner x = new ArrowTurner();
                Check.feed(x, "4;01".substring(0, at));
                due("feed(" + b + ", 1)", x.feed(b, 1), at + 1);
                due("read()", x.read(), -1000 - at);
            }
        }
        ArrowTurner x = new ArrowTurner();
        due("feed(-1, 4)", x.feed(-1, 4), 4);
        due("read()", x.read(), -1000);
    }

    private static void judgedFlowOfARound() {
        CHECK.says("A FLOW that is JUDGED is that of the ARROWING also if it has a ROUND");
        ArrowTurner x = Check.net("4;01;12;20;32");
        x.row(0, 1);
        x.put(0, 0, -3);
        due("judge(0, 4), a ROUND", x.judge(0, 4), NOT);
        due("judge(0, 12), a ROUND and a SOURCE", x.judge(0, 12), NOT);
        due("judge(0, 3), the other ROUND", x.judge(0, 3), 0);
        due("judge(0, 0), none", x.judge(0, 0), 0);
        due("flow(4, 2)", x.flow(4, 2), -3);
        due("flow(3, 2)", x.flow(3, 2), 3);
    }
}
