import java.util.ArrayList;
import java.util.List;
import java.util.TreeSet;

/** Terms, section 3 (FIRINGS, WORDS): a test for each sentence that names an edge. */
public final class FiringTermsTest {
    private static final Check CHECK = new Check("FiringTermsTest");
    private static final int BAD = -1, NOT = -2;
    private static final long NO = Long.MIN_VALUE;
    private static final String TEN = "7;01;12;23;34;45;56;06;03;14;25";
    private static final String STAR = "7;01;02;03;04;05;06";
    private static final String RING = "7;01;12;23;34;45;56;06";
    /** 12: the ROUND and the tail's NODE a SOURCE; 4: the ROUND, no SOURCE. */
    private static final String TAIL = "4;01;12;02;30";
    private static final int[] ORDERED = {1, 12, 123, 1234, 12345, 123456, 1234567};
    private static final int[] TURNED_ABOUT = {1, 21, 321, 4321, 54321, 654321, 7654321};

    private static void due(String call, long got, long want) {
        CHECK.due(call, got, want);
    }

    public static void main(String[] args) {
        distanceOfTheSame();
        distanceFewest();
        distanceByNone();
        stepLeast();
        stepNone();
        farGreatest();
        farLeastOfThem();
        farOfItself();
        waysOfNone();
        waysOfTwelve();
        tripOneAtLeast();
        tripByNone();
        wordsOfAllNodes();
        arrowsOfWords();
        leastOfWords();
        howManyWords();
        noWordsOfARound();
        turnedWords();
        conjugateWords();
        offIsNot();
        offPairs();
        CHECK.end();
    }

    private static String path(int n) {
        return n + "7;01;12;23;34;45;56".substring(1, 3 * n - 2);
    }

    private static ArrowTurner nodes(int n) {
        ArrowTurner x = new ArrowTurner();
        x.nodes(n);
        return x;
    }

    private static void distanceOfTheSame() {
        CHECK.says("DISTANCE .. 0: they are the same");
        ArrowTurner ring = Check.net("3;01;12;02");
        for (int a = 0; a < 8; a++) {
            due("distance(" + a + ", " + a + ")", ring.distance(a, a), 0);
            due("step(" + a + ", " + a + ")", ring.step(a, a), NOT);
        }
        due("without EDGES", new ArrowTurner().distance(0, 0), 0);
        due("the greatest", Check.net(TEN).distance(1023, 1023), 0);
        due("a ROUND", Check.net(TAIL).distance(4, 4), 0);
    }

    private static void distanceFewest() {
        CHECK.says("DISTANCE: the fewest FIRINGS, one behind the other");
        for (int n = 2; n <= 7; n++) {
            ArrowTurner x = Check.net(path(n));
            int all = (1 << n - 1) - 1;
            due("all of a path of " + n, x.distance(0, all), n * (n - 1) / 2);
            due("and back", x.distance(all, 0), n * (n - 1) / 2);
            due("one FIRED", x.distance(0, 1), 1);
            due("one FIRED, not DROWNED", x.distance(1, 0), n - 1);
        }
        ArrowTurner star = Check.net(STAR);
        due("the hub", star.distance(0, 63), 1);
        due("all but the hub", star.distance(63, 0), 6);
        due("all but one, the hub, all but one", star.distance(62, 1), 11);
        due("all but one, the hub, one", star.distance(62, 61), 5 + 1 + 1);
        due("arrows() stay", star.arrows(), 0);
        due("no DEED", star.count(2), 0);
    }

    private static void distanceByNone() {
        CHECK.says("DISTANCE .. NOT: by none");
        ArrowTurner ring = Check.net("3;01;12;02");
        due("of two CLASSES", ring.distance(0, 1), NOT);
        due("FREE to a ROUND", ring.distance(0, 3), NOT);
        due("a ROUND to FREE", ring.distance(3, 0), NOT);
        due("a ROUND to the other", ring.distance(3, 4), NOT);
        ArrowTurner tail = Check.net(TAIL);
        due("a ROUND, its tail FIRED", tail.distance(12, 4), 1);
        due("a ROUND, not back", tail.distance(4, 12), NOT);
        ArrowTurner sink = Check.net("4;01;12;02;23");
        due("a ROUND, its SINK is not FIRED", sink.distance(4, 12), NOT);
        due("a ROUND, its SOURCE is FIRED", sink.distance(12, 4), 1);
        due("the like FLOW", Check.net(TEN).distance(0, 1023), NOT);
    }

    private static void stepLeast() {
        CHECK.says("STEP: the least NODE with which a row of so few FIRINGS can begin");
        ArrowTurner star = Check.net(STAR);
        for (int v = 1; v <= 6; v++) {
            due("step to one FIRED", star.step(63, 63 - (1 << v - 1)), v);
            due("step to the others FIRED", star.step(63, 1 << v - 1), v == 1 ? 2 : 1);
        }
        due("the hub", star.step(0, 63), 0);
        due("the hub alone can", star.step(0, 1), 0);
        ArrowTurner parts = Check.net("7;65;43;21");
        due("all three", parts.step(0b111, 0b000), 2);
        due("two", parts.step(0b111, 0b100), 4);
        due("the last", parts.step(0b111, 0b110), 6);
        due("the lesser is a SOURCE, but not on the way", parts.step(0b001, 0b010), 3);
        // 1 and 3 are SOURCES: with 1 the row would be longer.
        due("not the least SOURCE", Check.net("4;10;32").step(3, 1), 3);
    }

    private static void stepNone() {
        CHECK.says("STEP .. NOT: DISTANCE is 0 or NOT");
        ArrowTurner tail = Check.net(TAIL);
        due("0, with a SOURCE", tail.step(12, 12), NOT);
        due("0, with none", tail.step(4, 4), NOT);
        due("NOT, with a SOURCE", tail.step(12, 0), NOT);
        due("NOT, with none", tail.step(4, 12), NOT);
        due("1", tail.step(12, 4), 3);
        due("without EDGES", new ArrowTurner().step(0, 0), NOT);
    }

    private static void farGreatest() {
        CHECK.says("FAR of one: the greatest DISTANCE from it to any that it can become");
        for (int n = 2; n <= 7; n++) {
            ArrowTurner x = Check.net(path(n));
            int all = (1 << n - 1) - 1;
            due("far(0, 0) of a path of " + n, x.far(0, 0), n * (n - 1) / 2);
            due("far(0, 1)", x.far(0, 1), all);
            due("far(" + all + ", 0)", x.far(all, 0), n * (n - 1) / 2);
            due("far(" + all + ", 1)", x.far(all, 1), 0);
        }
        due("not what it can't become", Check.net("3;01;12;02").far(0, 0), 2);
        due("TEN", Check.net(TEN).far(129, 0), 10);
        due("TEN", Check.net(TEN).far(129, 1), 624);
    }

    private static void farLeastOfThem() {
        CHECK.says("FAR of one: .. the least such ARROWING");
        ArrowTurner star = Check.net(STAR);
        due("six are as far, the least", star.far(0, 1), 1);
        due("as far", star.far(0, 0), 6);
        due("as far as the least", star.distance(0, 1), 6);
        due("as far as the greatest", star.distance(0, 32), 6);
        due("one is far", star.far(31, 1), 32);
        due("it is", star.far(31, 0), 11);
        due("two are as far", Check.net("6;01;12;20;34;45").far(0, 1), 30);
    }

    private static void farOfItself() {
        CHECK.says("The NODE from which FAR is told counts itself, with 0");
        ArrowTurner tail = Check.net(TAIL);
        due("no SOURCE", tail.far(4, 0), 0);
        due("no SOURCE", tail.far(4, 1), 4);
        due("a ROUND of its own", Check.net("3;01;12;02").far(3, 0), 0);
        due("a ROUND of its own", Check.net("3;01;12;02").far(3, 1), 3);
        for (int n = 1; n <= 7; n++) {
            due("without EDGES", nodes(n).far(0, 0), 0);
            due("without EDGES", nodes(n).far(0, 1), 0);
        }
    }

    private static void waysOfNone() {
        CHECK.says("WAYS of 0: the one row of no NODES; of 1: the SOURCES");
        String[] nets = {"1", "4", "2;01", TAIL, STAR, TEN};
        for (String net : nets) {
            ArrowTurner x = Check.net(net);
            int all = (1 << x.count(1)) - 1;
            due("ways(0, 0) of " + net, x.ways(0, 0), 1);
            due("ways(" + all + ", 0)", x.ways(all, 0), 1);
            due("ways(0, 1)", x.ways(0, 1), Integer.bitCount(x.ends(0, 0)));
            due("ways(" + all + ", 1)", x.ways(all, 1), Integer.bitCount(x.ends(all, 0)));
            due("ways(0, -1)", x.ways(0, -1), NO);
        }
        ArrowTurner tail = Check.net(TAIL);
        due("a ROUND, no SOURCE, 0", tail.ways(4, 0), 1);
        due("a ROUND, no SOURCE, 1", tail.ways(4, 1), 0);
        due("a ROUND, no SOURCE, 12", tail.ways(4, 12), 0);
        due("a ROUND, one SOURCE, 1", tail.ways(12, 1), 1);
        due("a ROUND, one SOURCE, 2", tail.ways(12, 2), 0);
        due("without EDGES, 12", new ArrowTurner().ways(0, 12), 0);
    }

    private static void waysOfTwelve() {
        CHECK.says("WAYS of n: how many rows of n NODES there are that can be FIRED one behind the other");
        ArrowTurner star = Check.net(STAR);
        long[] want = {1, 6, 30, 120, 360, 720, 720, 720, 4320, 21600, 86400, 259200, 518400};
        for (int n = 0; n <= 12; n++) {
            due("ways(63, " + n + ")", star.ways(63, n), want[n]);
        }
        due("ways(63, 13)", star.ways(63, 13), NO);
        due("three parts, 12", Check.net("6;01;23;45").ways(0, 12), 531441);
        due("a path of 7, 11", Check.net(path(7)).ways(0, 11), 858);
        due("a path of 7, 12", Check.net(path(7)).ways(0, 12), 2178);
        due("TEN, 12", Check.net(TEN).ways(2, 12), 24);
        due("one after the other, 12", Check.net(TEN).ways(0, 12), 1);
    }

    private static void tripOneAtLeast() {
        CHECK.says("TRIP: the fewest FIRINGS, one at least, behind which it is as it was");
        for (int n = 2; n <= 7; n++) {
            ArrowTurner x = Check.net(path(n));
            for (int a = 0; a < 1 << n - 1; a++) {
                due("trip(" + a + ") of a path of " + n, x.trip(a), n);
            }
        }
        due("TEN", Check.net(TEN).trip(0), 7);
        due("the part with fewest", Check.net("7;01;12;23;45;56").trip(0), 3);
        due("wherever it is", Check.net("7;01;23;34;45;56").trip(0), 2);
        due("NODES without EDGES", Check.net("7;35").trip(1), 2);
    }

    private static void tripByNone() {
        CHECK.says("TRIP .. NOT: by none");
        for (int n = 1; n <= 7; n++) {
            due("without EDGES", nodes(n).trip(0), NOT);
        }
        due("a ROUND", Check.net("3;01;12;02").trip(3), NOT);
        due("a ROUND with a SOURCE", Check.net(TAIL).trip(12), NOT);
        due("a ROUND with a SINK", Check.net("4;01;12;02;23").trip(4), NOT);
        due("a ROUND in one part alone", Check.net("5;01;12;02;34").trip(3), 2);
        due("a ROUND in both", Check.net("6;01;12;02;34;45;35").trip(0b011011), NOT);
    }

    /** What every call answers that takes a WORD: BAD for what is none. */
    private static void word(int n, int word, boolean isOne) {
        ArrowTurner x = nodes(n);
        int good = ORDERED[n - 1];
        String told = word + " with N " + n;
        due("byWord, " + told, x.byWord(word), isOne ? 0 : BAD);
        CHECK.that("turn, " + told, isOne == x.turn(word) > 0);
        CHECK.that("turn, BAD, " + told, isOne || x.turn(word) == BAD);
        due("conjugate, one, " + told, x.conjugate(word, good), isOne ? 1 : BAD);
        due("conjugate, other, " + told, x.conjugate(good, word), isOne ? 1 : BAD);
        due("off, one and other, " + told, x.off(word, word), isOne ? 0 : BAD);
        CHECK.that("off, one, " + told, isOne ? x.off(word, good) >= 0 : x.off(word, good) == BAD);
        CHECK.that("off, other, " + told, isOne ? x.off(good, word) >= 0 : x.off(good, word) == BAD);
        due("hold, " + told, x.hold(0, 1, word), isOne ? word : BAD);
        due("taken, " + told, x.taken(0, 2), isOne ? n : -11);
    }

    private static void wordsOfAllNodes() {
        CHECK.says("A WORD: a row of all NODES, each once, told as a number of N digits: NODE and 1 each");
        for (int n = 1; n <= 7; n++) {
            int good = ORDERED[n - 1];
            int unit = (int) Math.pow(10, n - 1);
            word(n, good, true);
            word(n, TURNED_ABOUT[n - 1], true);
            word(n, good + 1, false);
            word(n, good - 1, false);
            word(n, good - n, false);
            word(n, good / 10, false);
            word(n, good * 10, false);
            word(n, good * 10 + n + 1, false);
            word(n, good + unit * 10, false);
            word(n, good - unit, false);
            word(n, unit * (n + 1) + good % unit, false);
            word(n, -good, false);
            word(n, 0, false);
            word(n, -1, false);
            word(n, good + 1000000000, false);
            word(n, Integer.MAX_VALUE, false);
            word(n, Integer.MIN_VALUE, false);
            for (int of = 1; of <= 7; of++) {
                word(n, ORDERED[of - 1], of == n);
            }
        }
        word(7, 1234566, false);
        word(7, 1134567, false);
        word(7, 7777777, false);
        word(7, 1234568, false);
        word(7, 8234567, false);
        word(7, 1234507, false);
        word(2, 11, false);
        word(2, 22, false);
    }

    private static List<Integer> words(int n) {
        List<Integer> all = new ArrayList<>();
        all.add(0);
        for (int i = 0; i < n; i++) {
            List<Integer> longer = new ArrayList<>();
            for (int begun : all) {
                for (int d = 1; d <= n; d++) {
                    if (String.valueOf(begun).indexOf('0' + d) < 0) {
                        longer.add(begun * 10 + d);
                    }
                }
            }
            all = longer;
        }
        return all;
    }

    private static void arrowsOfWords() {
        CHECK.says("ARROWS of a WORD: each EDGE leads from that of its NODES which is ahead of the other");
        for (int n = 1; n <= 7; n++) {
            ArrowTurner x = Check.net(path(n));
            due("byWord(" + ORDERED[n - 1] + ")", x.byWord(ORDERED[n - 1]), 0);
            due("byWord(" + TURNED_ABOUT[n - 1] + ")", x.byWord(TURNED_ABOUT[n - 1]), (1 << n - 1) - 1);
            due("without EDGES", nodes(n).byWord(TURNED_ABOUT[n - 1]), 0);
        }
        due("TEN, all turned", Check.net(TEN).byWord(7654321), 1023);
        due("TEN, none", Check.net(TEN).byWord(1234567), 0);
        due("TEN, the first behind the last", Check.net(TEN).byWord(2345671), 1 + 64 + 128);
        due("however they were told", Check.net("3;10;21;20").byWord(123), 0);
        ArrowTurner x = Check.net("3;01;12;20");
        int[] want = {0, 2, 1, 5, 6, 7};
        for (int k = 0; k < 6; k++) {
            due("byWord(" + words(3).get(k) + ")", x.byWord(words(3).get(k)), want[k]);
        }
        due("THE ARROWS stay", x.arrows(), 4);
    }

    private static void leastOfWords() {
        CHECK.says("WORDS of an ARROWING: those whose ARROWS it is; the least as a number");
        ArrowTurner x = Check.net("5;43;01;24;13;20;41");
        for (int a = 0; a < 64; a++) {
            int least = NOT;
            int many = 0;
            for (int word : words(5)) {
                if (arrowsOf(word, new int[][] {{3, 4}, {0, 1}, {2, 4}, {1, 3}, {0, 2}, {1, 4}}) == a) {
                    least = many == 0 ? word : least;
                    many++;
                }
            }
            due("words(" + a + ", 0)", x.words(a, 0), least);
            due("words(" + a + ", 1)", x.words(a, 1), many);
        }
    }

    private static int arrowsOf(int word, int[][] edges) {
        String digits = String.valueOf(word);
        int arrowing = 0;
        for (int e = 0; e < edges.length; e++) {
            boolean high = digits.indexOf('1' + edges[e][1]) < digits.indexOf('1' + edges[e][0]);
            arrowing += high ? 1 << e : 0;
        }
        return arrowing;
    }

    private static void howManyWords() {
        CHECK.says("WORDS of an ARROWING: how many there are");
        int product = 1;
        for (int n = 1; n <= 7; n++) {
            product *= n;
            due("all WORDS of " + n, nodes(n).words(0, 1), product);
            due("the least of " + n, nodes(n).words(0, 0), ORDERED[n - 1]);
            due("one alone", Check.net(path(n)).words(0, 1), 1);
            due("one alone", Check.net(path(n)).words(0, 0), ORDERED[n - 1]);
            due("one alone, the last", Check.net(path(n)).words((1 << n - 1) - 1, 0), TURNED_ABOUT[n - 1]);
        }
        ArrowTurner star = Check.net(STAR);
        due("the hub first", star.words(0, 1), 720);
        due("the hub last", star.words(63, 1), 720);
        due("the hub last", star.words(63, 0), 2345671);
        due("one EDGE", Check.net("7;06").words(0, 1), 2520);
        due("one EDGE, turned", Check.net("7;06").words(1, 0), 2345671);
    }

    private static void noWordsOfARound() {
        CHECK.says("WORDS .. (0 of one that has a ROUND)");
        String[] nets = {"3;01;12;02", "4;01;12;23;03", "5;01;12;23;34;04", "6;01;12;23;34;45;05", RING};
        for (int k = 0; k < nets.length; k++) {
            ArrowTurner x = Check.net(nets[k]);
            int round = (1 << k + 2) - 1;
            due("a ROUND of " + (k + 3), x.words(round, 1), 0);
            due("the other", x.words(round + 1, 1), 0);
            due("the least of a ROUND", x.words(round, 0), NOT);
            due("the least of the other", x.words(round + 1, 0), NOT);
            due("no ROUND", x.words(round - 1, 1) > 0 ? 1 : 0, 1);
        }
        due("a ROUND behind all others", Check.net("7;01;12;23;34;45;56;46").words(0b0110000, 0), NOT);
        due("a ROUND ahead of all others", Check.net("7;01;12;02;23;34;45;56").words(0b0000100, 0), NOT);
        due("a ROUND ahead of all others", Check.net("7;01;12;02;23;34;45;56").words(0b0000100, 1), 0);
    }

    private static void turnedWords() {
        CHECK.says("TURNED: a WORD whose first NODE has gone behind its last");
        int[] want = {1, 21, 231, 2341, 23451, 234561, 2345671};
        int[] back = {1, 12, 213, 3214, 43215, 543216, 6543217};
        for (int n = 1; n <= 7; n++) {
            due("turn(" + ORDERED[n - 1] + ")", nodes(n).turn(ORDERED[n - 1]), want[n - 1]);
            due("turn(" + TURNED_ABOUT[n - 1] + ")", nodes(n).turn(TURNED_ABOUT[n - 1]), back[n - 1]);
            ArrowTurner x = nodes(n);
            int word = TURNED_ABOUT[n - 1];
            TreeSet<Integer> seen = new TreeSet<>();
            for (int k = 0; k < n; k++) {
                seen.add(word);
                word = x.turn(word);
            }
            due("turned " + n + " times", word, TURNED_ABOUT[n - 1]);
            due("all are other ones", seen.size(), n);
        }
    }

    private static void conjugateWords() {
        CHECK.says("CONJUGATE: two WORDS whose ARROWS are ALIKE");
        ArrowTurner ring = Check.net("4;01;12;23;03");
        for (int word : words(4)) {
            due("a WORD and itself, " + word, ring.conjugate(word, word), 1);
            due("a WORD and it TURNED, " + word, ring.conjugate(word, ring.turn(word)), 1);
            due("1234 and " + word, ring.conjugate(1234, word), ring.alike(0, ring.byWord(word)));
            due("4321 and " + word, ring.conjugate(word, 4321), ring.alike(ring.byWord(word), 15));
        }
        due("both ways about", ring.conjugate(1234, 4321), 0);
        due("one NODE", Check.net("1").conjugate(1, 1), 1);
        due("without EDGES", Check.net("7").conjugate(1234567, 7654321), 1);
        due("without CHORDS", Check.net(path(7)).conjugate(1234567, 7654321), 1);
        due("TEN", Check.net(TEN).conjugate(1234567, 7654321), 0);
        due("TEN", Check.net(TEN).conjugate(1234567, 4567123), 1);
    }

    private static void offIsNot() {
        CHECK.says("OFF of two WORDS: NOT, if their ARROWS are not the same");
        for (int n = 2; n <= 7; n++) {
            ArrowTurner x = Check.net(path(n));
            due("of a path of " + n, x.off(ORDERED[n - 1], TURNED_ABOUT[n - 1]), NOT);
            due("and the other way", x.off(TURNED_ABOUT[n - 1], ORDERED[n - 1]), NOT);
            due("TURNED", x.off(ORDERED[n - 1], x.turn(ORDERED[n - 1])), NOT);
            due("the same", x.off(ORDERED[n - 1], ORDERED[n - 1]), 0);
        }
        ArrowTurner last = Check.net("7;56");
        due("the one EDGE is otherwise", last.off(1234567, 1234576), NOT);
        due("the one EDGE is the same", last.off(1234567, 2134567), 1);
        due("CONJUGATE is not enough", Check.net("3;01;12;02").off(123, 231), NOT);
    }

    private static void offPairs() {
        CHECK.says("OFF: how many pairs of NODES of which one is ahead of the other in the one, behind it in the other");
        for (int n = 1; n <= 7; n++) {
            due("all pairs of " + n, nodes(n).off(ORDERED[n - 1], TURNED_ABOUT[n - 1]), n * (n - 1) / 2);
            due("and the other way", nodes(n).off(TURNED_ABOUT[n - 1], ORDERED[n - 1]), n * (n - 1) / 2);
            due("none", nodes(n).off(TURNED_ABOUT[n - 1], TURNED_ABOUT[n - 1]), 0);
            due("the first gone last", nodes(n).off(ORDERED[n - 1], nodes(n).turn(ORDERED[n - 1])), n - 1);
        }
        ArrowTurner fewer = nodes(7);
        due("all pairs of 7", fewer.off(1234567, 7654321), 21);
        for (int n = 6; n >= 1; n--) {
            fewer.nodes(n);
            due("all pairs of " + n + ", of 7 before", fewer.off(ORDERED[n - 1], TURNED_ABOUT[n - 1]), n * (n - 1) / 2);
        }
        due("the last two", nodes(7).off(1234567, 1234576), 1);
        due("the first two", nodes(7).off(2134567, 1234567), 1);
        due("two pairs", nodes(7).off(2134567, 1234576), 2);
        ArrowTurner star = Check.net(STAR);
        due("the hub stays", star.off(1234567, 1765432), 15);
        due("the hub stays last", star.off(2345671, 7654321), 15);
    }
}
