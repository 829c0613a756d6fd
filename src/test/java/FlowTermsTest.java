/** Terms, section 2 (TREE, CHORDS, FLOWS, CLASSES, TUTTE): a test for each sentence that names an edge. */
public final class FlowTermsTest {
    private static final Check CHECK = new Check("FlowTermsTest");
    private static final int BAD = -1, NOT = -2;
    private static final long NO = Long.MIN_VALUE;
    private static final String TEN = "7;01;12;23;34;45;56;06;03;14;25";
    private static final String K5 = "5;01;02;03;04;12;13;14;23;24;34";
    /** Rings of 3 to 7: the last EDGE is the CHORD, from the least NODE to the greatest. */
    private static final String[] RINGS = {"3;01;12;02", "4;01;12;23;03", "5;01;12;23;34;04",
        "6;01;12;23;34;45;05", "7;01;12;23;34;45;56;06"};

    private static void due(String call, long got, long want) {
        CHECK.due(call, got, want);
    }

    public static void main(String[] args) {
        treeOrChord();
        treeSoFar();
        byNumbers();
        flowAllTheWay();
        flowOfRingAlone();
        noNodeTwice();
        alikeIfBothAreFree();
        alikeRoundAllChords();
        alikeWithoutChords();
        classesWithoutEdges();
        sizeAndHead();
        orderOfClasses();
        everyArrowingOfTen();
        noClassOfARound();
        rootedNoOtherSource();
        rootedIfFree();
        tutteWithoutEdges();
        tutteNotJoinedOtherwise();
        tutteBothEndsOneNode();
        tutteOfAll();
        behindEveryChange();
        CHECK.end();
    }

    private static void chordsAre(String net, String want) {
        ArrowTurner x = Check.net(net);
        StringBuilder got = new StringBuilder();
        int chords = 0;
        for (int e = 0; e < x.count(1); e++) {
            got.append(x.of(e, 2));
            chords += x.of(e, 2);
            due("flow of " + e + " is NO, " + net, x.flow(0, e) == NO ? 1 : 0, 1 - x.of(e, 2));
        }
        CHECK.same("TREE 0, CHORD 1 of " + net, got.toString(), want);
        due("count(5) of " + net, x.count(5), chords);
    }

    private static void treeOrChord() {
        CHECK.says("one whose two NODES are not joined by EDGES of TREE is of TREE; any other is a CHORD");
        chordsAre("1", "");
        chordsAre("7", "");
        chordsAre("2;10", "0");
        for (int k = 0; k < RINGS.length; k++) {
            chordsAre(RINGS[k], "0".repeat(k + 2) + "1");
        }
        chordsAre("7;01;02;03;04;05;06", "000000");
        chordsAre("6;01;23;45", "000");
        chordsAre("6;01;23;45;12;34", "00000");
        chordsAre("6;01;23;45;12;34;05", "000001");
        chordsAre(TEN, "0000001111");
        chordsAre(K5, "0000111111");
    }

    private static void treeSoFar() {
        CHECK.says("EDGES that are of TREE so far");
        chordsAre("7;06;12;23;34;45;56;01", "0000001");
        chordsAre("4;23;03;02;01;13;12", "001011");
        chordsAre("6;01;12;02;34;45;35;23", "0010010");
        ArrowTurner x = Check.net("3;01;12;02");
        x.cut(0);
        due("of(1, 2), its TREE was cut", x.of(1, 2), 0);
        due("count(5)", x.count(5), 0);
        due("edge(0, 1)", x.edge(0, 1), 2);
        due("of(2, 2), it closes the ring now", x.of(2, 2), 1);
        due("of(1, 2)", x.of(1, 2), 0);
        x.cut(2);
        due("the CHORD was cut", x.count(5), 0);
    }

    private static void byNumbers() {
        CHECK.says("TREE and CHORDS: EDGES by numbers");
        chordsAre("3;02;12;01", "001");
        chordsAre("3;02;01;12", "001");
        ArrowTurner x = Check.net(TEN);
        for (int e = 0; e < 6; e++) {
            x.cut(0);
        }
        due("what were CHORDS", x.count(5), 0);
        ArrowTurner late = Check.net("4;01;23;12;02;03;13");
        due("the first CHORD", late.of(3, 2), 1);
        late.row(0, 3);
        for (int k = 0; k < 3; k++) {
            late.put(0, k, (int) late.flow(0, 3 + k));
        }
        due("FLOWS by numbers", late.judge(0, 0), NOT);
    }

    private static void flowAllTheWay() {
        CHECK.says("FLOW: how many EDGES of its RING lead the way the RING goes, less how many lead against it");
        for (int k = 3; k <= 7; k++) {
            ArrowTurner x = Check.net(RINGS[k - 3]);
            int chord = k - 1;
            int tree = (1 << chord) - 1;
            due("all lead so, " + k, x.flow(tree, chord), k);
            due("all lead against it, " + k, x.flow(1 << chord, chord), -k);
            for (int a = 0; a < 2 << chord; a++) {
                int back = Integer.bitCount(a & tree);
                int over = a <= tree ? 1 : -1;
                due("flow(" + a + ", " + chord + ")", x.flow(a, chord), over + back - (chord - back));
            }
        }
        ArrowTurner low = Check.net("3;01;12;20");
        due("the CHORD leads from HIGH to LOW", low.flow(low.arrows(), 2), -3);
        // Parts of TREE that are joined late, in the middle of both.
        ArrowTurner late = Check.net("7;01;12;34;45;14;05;23;60");
        due("late, over 01, 14, 45", late.flow(0, 5), 1 - 1 - 1 - 1);
        due("late, over 12, 14, 34", late.flow(0, 6), 1 + 1 - 1 + 1);
        due("late, two turned", late.flow(1 << 4 | 1 << 5, 5), -1 - 1 + 1 - 1);
        ArrowTurner up = Check.net("3;12;02;01");
        int[] turned = {1, 1 - 2, 1 + 2, 1 - 2 + 2, 1 - 2, 1 - 2 - 2, 1 + 2 - 2, 1 - 2 + 2 - 2};
        for (int a = 0; a < 8; a++) {
            due("over 01, 12, 20: flow(" + a + ", 2)", up.flow(a, 2), turned[a]);
        }
        ArrowTurner high = Check.net("7;65;54;46");
        due("the greatest NODES", high.flow(high.arrows(), 2), 3);
        due("the greatest NODES", high.flow(0, 2), 1 - 1 - 1);
    }

    private static void flowOfRingAlone() {
        CHECK.says("FLOW: EDGES of its RING");
        ArrowTurner x = Check.net("6;01;12;13;34;45;23");
        for (int a = 0; a < 64; a++) {
            int want = ((a & 32) == 0 ? 1 : -1) + ((a & 4) != 0 ? 1 : -1) + ((a & 2) == 0 ? 1 : -1);
            due("flow(" + a + ", 5)", x.flow(a, 5), want);
        }
        ArrowTurner two = Check.net("6;01;12;02;34;45;35");
        for (int a = 0; a < 64; a++) {
            due("the first RING of " + a, two.flow(a, 2), two.flow(a & 7, 2));
            due("the second RING of " + a, two.flow(a, 5), two.flow(a & 56, 5));
        }
    }

    private static void noNodeTwice() {
        CHECK.says("RING: (no NODE twice)");
        // From 6 to 5 by 0: the way from both to 0 shares 0, 1, 2, which is not gone over.
        ArrowTurner x = Check.net("7;01;12;23;35;24;46;56");
        int[] ring = {0, 0, 1, 1, 1, 1, 1};
        for (int e = 0; e < 7; e++) {
            long turned = x.flow(1 << e, 6) - x.flow(0, 6);
            due("EDGE " + e + " turned counts", Math.abs(turned), 2 * ring[e]);
        }
    }

    private static void alikeIfBothAreFree() {
        CHECK.says("Two ARROWINGS are ALIKE, if both are FREE");
        for (int k = 3; k <= 7; k++) {
            ArrowTurner x = Check.net(RINGS[k - 3]);
            int round = (1 << k - 1) - 1;
            due("a ROUND and itself, " + k, x.alike(round, round), 0);
            due("a ROUND and the other", x.alike(round, round + 1), 0);
            due("FREE and a ROUND", x.alike(0, round), 0);
            due("a ROUND and FREE", x.alike(round, 0), 0);
            due("FREE and itself", x.alike(0, 0), 1);
        }
        ArrowTurner tail = Check.net("4;01;12;20;32");
        due("like FLOWS, both with a ROUND", tail.alike(4, 12), 0);
    }

    private static void alikeRoundAllChords() {
        CHECK.says("ALIKE: their FLOWS round all CHORDS are the same");
        for (int a = 0; a < 32; a++) {
            ArrowTurner x = Check.net("4;01;12;02;23;13");
            for (int b = 0; b < 32; b++) {
                boolean same = x.flow(a, 2) == x.flow(b, 2) && x.flow(a, 4) == x.flow(b, 4);
                boolean free = x.free(a) == 1 && x.free(b) == 1;
                due("alike(" + a + ", " + b + ")", x.alike(a, b), same && free ? 1 : 0);
            }
        }
        ArrowTurner two = Check.net("6;01;12;02;34;45;35");
        due("the first FLOW is otherwise", two.alike(0, 1), 0);
        due("the last FLOW is otherwise", two.alike(0, 8), 0);
        due("both are the same", two.alike(1, 4 + 2), 0);
        due("both are the same", two.alike(1, 2), 1);
        due("both are the same", two.alike(8, 16), 1);
        due("both are otherwise", two.alike(0, 9), 0);
        ArrowTurner ten = Check.net(TEN);
        due("four CHORDS, the last otherwise", ten.alike(0, 512), 0);
        due("four CHORDS, FIRED", ten.alike(0, 1 | 64 | 128), 1);
    }

    private static void alikeWithoutChords() {
        CHECK.says("ALIKE without CHORDS: all that are FREE");
        for (int n = 1; n <= 7; n++) {
            ArrowTurner x = Check.net("7;01;12;23;34;45;56".substring(0, 3 * n - 2));
            int all = 1 << n - 1;
            due("alike, " + n, x.alike(0, all - 1), 1);
            due("many(0), " + n, x.many(0), all);
            due("many(1), " + n, x.many(1), 1);
            due("SIZE, " + n, x.ofClass(0, 0), all);
            due("HEAD, " + n, x.ofClass(0, 1), 0);
            due("place, " + n, x.place(all - 1), 0);
        }
    }

    private static void classesWithoutEdges() {
        CHECK.says("A CLASS without EDGES: the one ARROWING there is");
        for (int n = 1; n <= 7; n++) {
            ArrowTurner x = new ArrowTurner();
            x.nodes(n);
            due("many(0)", x.many(0), 1);
            due("many(1)", x.many(1), 1);
            due("ofClass(0, 0)", x.ofClass(0, 0), 1);
            due("ofClass(0, 1)", x.ofClass(0, 1), 0);
            due("ofClass(1, 0)", x.ofClass(1, 0), NOT);
            due("place(0)", x.place(0), 0);
            due("alike(0, 0)", x.alike(0, 0), 1);
        }
    }

    private static int choose(int n, int k) {
        return k == 0 ? 1 : choose(n - 1, k - 1) * n / k;
    }

    private static void sizeAndHead() {
        CHECK.says("SIZE: how many these are; HEAD: the least of them");
        for (int n = 3; n <= 7; n++) {
            ArrowTurner x = Check.net(RINGS[n - 3]);
            due("many(0), " + n, x.many(0), (1 << n) - 2);
            due("many(1), " + n, x.many(1), n - 1);
            for (int so = 1; so < n; so++) {
                int head = (1 << so - 1) - 1;
                int k = x.place(head);
                due("SIZE of " + so + " of " + n, x.ofClass(k, 0), choose(n, so));
                due("HEAD of " + so + " of " + n, x.ofClass(k, 1), head);
            }
        }
    }

    /** The HEADS of the CLASSES of rings of 3 to 7, in ORDER. */
    private static final int[][] HEADS = {{0, 1}, {1, 0, 3}, {1, 3, 0, 7}, {3, 1, 7, 0, 15}, {3, 7, 1, 15, 0, 31}};

    private static void orderOfClasses() {
        CHECK.says("ORDER of CLASSES: the greater SIZE first, of like ones the lesser HEAD");
        for (int n = 3; n <= 7; n++) {
            ArrowTurner x = Check.net(RINGS[n - 3]);
            int[] heads = HEADS[n - 3];
            for (int k = 0; k < heads.length; k++) {
                due("HEAD of CLASS " + k + " of " + n, x.ofClass(k, 1), heads[k]);
                due("place of it", x.place(heads[k]), k);
            }
            due("one more, SIZE", x.ofClass(heads.length, 0), NOT);
            due("one more, HEAD", x.ofClass(heads.length, 1), NOT);
            for (int a = 0; a < 1 << n; a++) {
                int tree = (1 << n - 1) - 1;
                int so = Integer.bitCount(a & tree) + (a <= tree ? 1 : 0);
                int want = NOT;
                for (int k = 0; so > 0 && k < heads.length; k++) {
                    want = heads[k] == (1 << so - 1) - 1 ? k : want;
                }
                due("place(" + a + ") of " + n, x.place(a), want);
            }
        }
    }

    private static void everyArrowingOfTen() {
        CHECK.says("A CLASS: all FREE ARROWINGS that are ALIKE to one of them");
        int[] sizes = new int[48];
        ArrowTurner x = Check.net(TEN);
        for (int a = 0; a < 1024; a++) {
            x = a % 128 == 0 ? Check.net(TEN) : x;
            int place = x.place(a);
            due("FREE or not, " + a, place == NOT ? 0 : 1, x.free(a));
            if (place >= 0 && place < 48) {
                sizes[place]++;
                due("ALIKE to the HEAD, " + a, x.alike(a, x.ofClass(place, 1)), 1);
            }
        }
        for (int k = 0; k < 48; k++) {
            due("SIZE of " + k, Check.net(TEN).ofClass(k, 0), sizes[k]);
        }
        due("many(0)", Check.net(TEN).many(0), 534);
        due("many(1)", Check.net(TEN).many(1), 48);
    }

    private static void noClassOfARound() {
        CHECK.says("A CLASS: all FREE ARROWINGS");
        for (int n = 3; n <= 7; n++) {
            ArrowTurner x = Check.net(RINGS[n - 3]);
            due("place of a ROUND", x.place((1 << n - 1) - 1), NOT);
            due("place of the other", x.place(1 << n - 1), NOT);
        }
        ArrowTurner tail = Check.net("4;01;12;20;32");
        due("place of a ROUND with a SOURCE", tail.place(12), NOT);
        due("many(0)", tail.many(0), 12);
        due("many(1)", tail.many(1), 2);
    }

    private static void rootedNoOtherSource() {
        CHECK.says("ROOTED at a NODE: that have it as a SOURCE, and no other SOURCE");
        for (int n = 1; n <= 7; n++) {
            ArrowTurner x = new ArrowTurner();
            x.nodes(n);
            due("without EDGES", x.rooted(n - 1), 0);
            ArrowTurner path = Check.net("7;01;12;23;34;45;56".substring(0, 3 * n - 2).replaceFirst("7", "" + n));
            for (int v = 0; v < n; v++) {
                due("a path, rooted(" + v + ") of " + n, path.rooted(v), n == 1 ? 0 : 1);
            }
        }
        ArrowTurner two = Check.net("6;01;12;02;34");
        for (int v = 0; v < 6; v++) {
            due("two parts, rooted(" + v + ")", two.rooted(v), 0);
        }
        ArrowTurner one = Check.net("6;12;24;14");
        int[] want = {0, 2, 2, 0, 2, 0};
        for (int v = 0; v < 6; v++) {
            due("NODES without EDGES, rooted(" + v + ")", one.rooted(v), want[v]);
        }
    }

    private static void rootedIfFree() {
        CHECK.says("ROOTED at a NODE: FREE ARROWINGS");
        for (int n = 3; n <= 7; n++) {
            ArrowTurner x = Check.net(RINGS[n - 3]);
            for (int v = 0; v < n; v++) {
                due("a ring, rooted(" + v + ") of " + n, x.rooted(v), n - 1);
            }
        }
        ArrowTurner tail = Check.net("4;01;12;20;32");
        due("the ROUND has one SOURCE", tail.ends(12, 0), 8);
        due("rooted(3)", tail.rooted(3), 2);
        due("rooted(0)", tail.rooted(0), 2);
        for (int v = 0; v < 7; v++) {
            due("TEN, rooted(" + v + ")", Check.net(TEN).rooted(v), 48);
        }
    }

    private static void tutteWithoutEdges() {
        CHECK.says("TUTTE of x and y: 1 without EDGES");
        for (int n = 1; n <= 7; n++) {
            ArrowTurner x = new ArrowTurner();
            x.nodes(n);
            for (int k = 0; k < 100; k++) {
                due("tutte(" + k / 10 + ", " + k % 10 + ") of " + n, x.tutte(k / 10, k % 10), 1);
            }
        }
        ArrowTurner cut = Check.net("2;01");
        cut.cut(0);
        due("all were cut", cut.tutte(0, 0), 1);
    }

    private static void tutteNotJoinedOtherwise() {
        CHECK.says("TUTTE: If its ends are not joined by other EDGES: x times that of all with e CONTRACTED");
        for (int n = 2; n <= 7; n++) {
            ArrowTurner path = Check.net("7;01;12;23;34;45;56".substring(0, 3 * n - 2));
            ArrowTurner star = Check.net("7;06;16;26;36;46;56".substring(0, 3 * n - 2));
            int power = 1;
            for (int x = 0; x <= 9; x++) {
                power = (int) Math.pow(x, n - 1);
                due("tutte(" + x + ", 0) of a path of " + n, path.tutte(x, 0), power);
                due("tutte(" + x + ", 9) of a path of " + n, path.tutte(x, 9), power);
                due("tutte(" + x + ", 1) of a star of " + n, star.tutte(x, 1), power);
            }
        }
        due("two parts", Check.net("4;01;23").tutte(9, 9), 81);
        due("the last EDGE joins two rings", Check.net("6;01;12;02;34;45;35;23").tutte(2, 3), 2 * 9 * 9);
        due("the first one does", Check.net("6;23;01;12;02;34;45;35").tutte(2, 3), 2 * 9 * 9);
    }

    private static void tutteBothEndsOneNode() {
        CHECK.says("TUTTE: if both its ends are one NODE: y times that of all without e");
        for (int n = 3; n <= 7; n++) {
            ArrowTurner ring = Check.net(RINGS[n - 3]);
            int[][] pairs = {{0, 0}, {0, 9}, {9, 0}, {9, 9}, {1, 0}, {0, 1}, {1, 1}, {2, 0}, {0, 2}, {5, 7}};
            for (int[] pair : pairs) {
                int want = pair[1];
                for (int k = 1; k < n; k++) {
                    want += (int) Math.pow(pair[0], k);
                }
                due("tutte(" + pair[0] + ", " + pair[1] + ") of a ring of " + n, ring.tutte(pair[0], pair[1]), want);
            }
        }
    }

    private static void tutteOfAll() {
        CHECK.says("TUTTE: Else that of all without e, and that with e CONTRACTED, together");
        int[][] pairs = {{0, 0}, {9, 9}, {0, 9}, {9, 0}, {1, 0}, {0, 1}, {1, 1}, {2, 0}, {0, 2}, {2, 2}, {8, 9}, {9, 8}};
        int[] ten = {0, 927621, 10980, 845280, 48, 20, 117, 534, 102, 1024, 508644, 912816};
        int[] k5 = {0, 909981, 845451, 11880, 24, 51, 125, 120, 544, 1024, 899451, 494344};
        int[] tails = {0, 88209, 0, 72900, 4, 0, 9, 72, 0, 128, 52488, 86436};
        for (int k = 0; k < pairs.length; k++) {
            int x = pairs[k][0];
            int y = pairs[k][1];
            due("TEN, tutte(" + x + ", " + y + ")", Check.net(TEN).tutte(x, y), ten[k]);
            due("K5, tutte(" + x + ", " + y + ")", Check.net(K5).tutte(x, y), k5[k]);
            due("tails, tutte(" + x + ", " + y + ")", Check.net("7;01;02;12;34;45;35;56").tutte(x, y), tails[k]);
        }
        // The numbers of EDGES change nothing.
        String[] orders = {"4;03;13;01;23;02;12", "4;23;03;13;12;02;01", "4;12;03;01;23;13;02", "4;32;31;30;21;20;10"};
        for (String order : orders) {
            due("K4, tutte(9, 8) of " + order, Check.net(order).tutte(9, 8), 1998);
            due("K4, tutte(2, 0) of " + order, Check.net(order).tutte(2, 0), 24);
        }
        due("a ring of 7", Check.net("7;06;56;45;34;23;12;01").tutte(2, 5), 5 + 2 + 4 + 8 + 16 + 32 + 64);
        due("a ring of 7", Check.net("7;06;16;01;36;26;23;56").tutte(2, 5), 2 * 11 * 11);
        // The greatest that comes out of any NET.
        due("tutte(9, 9)", Check.net("7;56;46;24;34;14;26;45;01;12;25").tutte(9, 9), 2706048);
        due("tutte(10, 9)", Check.net(TEN).tutte(10, 9), BAD);
        due("tutte(9, 10)", Check.net(TEN).tutte(9, 10), BAD);
    }

    /** All that is worked out of THE NET, as it must be of a new object with the same NET. */
    private static String worked(ArrowTurner x) {
        int all = (1 << x.count(1)) - 1;
        StringBuilder text = new StringBuilder().append(x.count(5));
        for (int e = 0; e < x.count(1); e++) {
            text.append(' ').append(x.of(e, 2)).append(' ').append(x.flow(all / 3, e));
        }
        text.append(" alike ").append(x.alike(0, 1 & all)).append(" many ").append(x.many(0)).append(' ');
        text.append(x.many(1)).append(" classes ").append(x.ofClass(0, 0)).append(' ').append(x.ofClass(0, 1));
        text.append(' ').append(x.ofClass(x.many(1) - 1, 1)).append(" place ").append(x.place(0)).append(' ');
        text.append(x.place(all)).append(" rooted ").append(x.rooted(0)).append(" tutte ").append(x.tutte(2, 3));
        return text.append(' ').append(x.tutte(1, 0)).toString();
    }

    private interface Change {
        void of(ArrowTurner x);
    }

    private static void behind(String told, Change change) {
        ArrowTurner x = Check.net(TEN);
        x.image();
        worked(x);
        change.of(x);
        String got = worked(x);
        CHECK.same("behind " + told + " what is worked out", got, worked(Check.net(Check.spelled(x))));
        x.undo();
        CHECK.same("behind " + told + " and undo()", worked(x), worked(Check.net(TEN)));
    }

    private static void behindEveryChange() {
        CHECK.says("EDGES, CHORDS, CLASSES: those of THE NET as it is");
        behind("cut(2)", x -> x.cut(2));
        behind("cut(9)", x -> x.cut(9));
        behind("cut(6), edge(6, 0)", x -> {
            x.cut(6);
            x.edge(6, 0);
        });
        behind("nodes(5)", x -> x.nodes(5));
        behind("nodes(7)", x -> x.nodes(7));
        behind("set(341)", x -> x.set(341));
        behind("fire(0)", x -> x.fire(0));
        behind("read() of less", x -> {
            Check.feed(x, "4;23;03;02;01;13");
            x.read();
        });
        behind("read() of as many", x -> {
            Check.feed(x, "7;65;06;45;34;32;21;10;13;46;53");
            x.read();
        });
        behind("read() of a FAULT", x -> {
            Check.feed(x, "7;65;06;45;34;32;21;10;13;46;66");
            x.read();
        });
    }
}
