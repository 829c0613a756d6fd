/** Promises 10 to 14: fire, drown, back, thin, log. */
public final class DeedsTest {
    private static final Check CHECK = new Check("DeedsTest");
    private static final int BAD = -1, NOT = -2, STATE = -5;

    private static void due(String call, long got, long want) {
        CHECK.due(call, got, want);
    }

    public static void main(String[] args) {
        fire();
        drown();
        back();
        thin();
        log();
        oldestGo();
        CHECK.end();
    }

    private static void fire() {
        ArrowTurner x = Check.net("4;01;02;12");
        due("10 fire(1)", x.fire(1), STATE);
        due("10 fire(2), a sink", x.fire(2), STATE);
        due("10 fire(3), no edges", x.fire(3), STATE);
        due("10 fire(4)", x.fire(4), BAD);
        due("10 fire(-1)", x.fire(-1), BAD);
        due("10 fire(32), no node", x.fire(32), BAD);
        due("10 refused, log", x.count(2), 0);
        due("10 fire(0)", x.fire(0), 3);
        due("10 arrows()", x.arrows(), 3);
        due("10 it is a sink then", x.ends(3, 1), 1);
        due("10 fire(0) again", x.fire(0), STATE);
        due("10 fire(1)", x.fire(1), 6);
        due("10 fire(2)", x.fire(2), 0);
        due("10 log", x.count(2), 3);
    }

    private static void drown() {
        ArrowTurner x = Check.net("4;01;02;12");
        due("11 drown(0), a source", x.drown(0), STATE);
        due("11 drown(1)", x.drown(1), STATE);
        due("11 drown(3), no edges", x.drown(3), STATE);
        due("11 drown(4)", x.drown(4), BAD);
        due("11 drown(-1)", x.drown(-1), BAD);
        due("11 refused, log", x.count(2), 0);
        due("11 drown(2)", x.drown(2), 6);
        due("11 arrows()", x.arrows(), 6);
        due("11 it is a source then", x.ends(6, 0), 4);
        due("11 drown(2) again", x.drown(2), STATE);
        due("11 drown(1)", x.drown(1), 3);
        due("11 drown(0)", x.drown(0), 0);
        due("11 log", x.count(2), 3);
    }

    private static void back() {
        ArrowTurner x = Check.net("3;01;12");
        due("12 back(), nothing", x.back(), STATE);
        x.fire(0);
        x.fire(1);
        x.drown(1);
        due("12 before", x.arrows(), 1);
        due("12 back(), a drowned one", x.back(), 2);
        due("12 log", x.count(2), 2);
        due("12 back(), a fired one", x.back(), 1);
        due("12 back()", x.back(), 0);
        due("12 back(), nothing more", x.back(), STATE);
        due("12 arrows()", x.arrows(), 0);
        x.fire(0);
        x.set(3);
        due("12 back() behind set", x.back(), STATE);
        due("12 arrows()", x.arrows(), 3);
    }

    private static void thin() {
        ArrowTurner x = Check.net("4;01;23");
        due("13 thin(), nothing", x.thin(), 0);
        x.fire(0);
        x.fire(1);
        due("13 two FIRED, no pair", x.thin(), 0);
        x.fire(0);
        x.fire(2);
        x.drown(2);
        x.drown(0);
        due("13 one in another", x.thin(), 4);
        due("13 log", x.count(2), 2);
        due("13 arrows stay", x.arrows(), 0);
        due("13 log(0, 0)", x.log(0, 0), 0);
        due("13 log(1, 0)", x.log(1, 0), 1);
        due("13 log(1, 1)", x.log(1, 1), 0);
        due("13 thin() again", x.thin(), 0);
        x.drown(1);
        x.drown(3);
        x.fire(3);
        x.fire(1);
        x.fire(2);
        due("13 the first two go first", x.thin(), 4);
        due("13 log", x.count(2), 3);
        for (int k = 0; k < 3; k++) {
            due("13 what stays", x.log(k, 0), k);
            due("13 what stays is fired", x.log(k, 1), 0);
        }
        x.drown(2);
        x.drown(1);
        x.drown(0);
        due("13 all go", x.thin(), 6);
        due("13 log", x.count(2), 0);
        due("13 back() behind it", x.back(), STATE);

        ArrowTurner y = Check.net("4;01;23");
        y.fire(0);
        y.fire(2);
        y.drown(0);
        y.drown(2);
        due("13 of one node, but not side by side", y.thin(), 0);
        due("13 log", y.count(2), 4);
    }

    private static void log() {
        ArrowTurner x = Check.net("4;01;12");
        due("14 log(0, 0), nothing", x.log(0, 0), NOT);
        x.fire(0);
        x.drown(2);
        x.fire(2);
        int[][] want = {{0, 0}, {2, 1}, {2, 0}};
        for (int k = 0; k < 3; k++) {
            due("14 log(" + k + ", 0)", x.log(k, 0), want[k][0]);
            due("14 log(" + k + ", 1)", x.log(k, 1), want[k][1]);
        }
        due("14 log(3, 0)", x.log(3, 0), NOT);
        due("14 log(MAX, 1)", x.log(Integer.MAX_VALUE, 1), NOT);
        due("14 log(-1, 0)", x.log(-1, 0), BAD);
        due("14 log(0, 2)", x.log(0, 2), BAD);
        due("14 log(0, -1)", x.log(0, -1), BAD);
        due("14 log(99, 2)", x.log(99, 2), BAD);
        x.back();
        due("14 behind back", x.log(2, 0), NOT);
    }

    private static void oldestGo() {
        ArrowTurner x = Check.net("2;01");
        for (int k = 0; k < 24; k++) {
            due("10 fire", x.fire(k % 2), 1 - k % 2);
        }
        due("10 log is full", x.count(2), 24);
        due("14 the oldest", x.log(0, 0), 0);
        due("11 drown(1)", x.drown(1), 1);
        due("11 log stays full", x.count(2), 24);
        due("14 the oldest has gone", x.log(0, 0), 1);
        due("14 it was fired", x.log(0, 1), 0);
        due("14 the newest", x.log(23, 0), 1);
        due("14 the newest was drowned", x.log(23, 1), 1);
        due("14 no more", x.log(24, 0), NOT);
        due("13 thin", x.thin(), 2);
        for (int k = 0; k < 22; k++) {
            due("12 back", x.back(), k % 2);
        }
        due("12 back", x.back(), STATE);

        ArrowTurner y = Check.net("2;01");
        for (int k = 0; k < 27; k++) {
            due("11 by turns", k % 2 == 0 ? y.fire(0) : y.drown(0), 1 - k % 2);
        }
        due("11 log is full", y.count(2), 24);
        for (int k = 0; k < 24; k++) {
            due("14 the node of " + k, y.log(k, 0), 0);
            due("14 whether " + k + " was drowned", y.log(k, 1), k % 2 == 0 ? 1 : 0);
        }
        due("13 thin, full", y.thin(), 24);
    }
}
