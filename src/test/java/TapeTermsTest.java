/** Terms, section 5 (THE TAPE, HOLDERS, THE IMAGE): a test for each sentence that names an edge. */
public final class TapeTermsTest {
    private static final Check CHECK = new Check("TapeTermsTest");
    private static final int BAD = -1, NOT = -2, FULL = -3, STATE = -5;
    private static final int NOTHING = -11, OTHER = -12, NO_PLACE = -13;
    private static final long NO = Long.MIN_VALUE;
    private static final String TEN = "7;65;06;45;34;32;21;10;13;46;53";
    private static final String K5 = "5;01;02;03;04;12;13;14;23;24;34";
    private static final String[] TEXTS = {TEN, "4;01;12;23;30;02;13", "3;20;01", "2;10", "1"};

    private static void due(String call, long got, long want) {
        CHECK.due(call, got, want);
    }

    public static void main(String[] args) {
        fortyBytesAtMost();
        everyByte();
        textOfANet();
        faultOfEveryByte();
        faultOfAnEnd();
        faultOfAnEleventh();
        faultOfTheFirst();
        theFaultChangesNothing();
        spelledAsTheArrowsAre();
        holdersFromNoughtToFive();
        nothingAtFirst();
        withHowManyThereWere();
        takenForKinds();
        rowsUpToTwenty();
        noughtAtFirst();
        oneHolderOneThing();
        judgedOtherwise();
        judgedTooShort();
        judgedTooLong();
        judgedAllIsSo();
        imageKeeps();
        imageDoesNotKeep();
        imageStays();
        imageTellsEdges();
        CHECK.end();
    }

    private static void fortyBytesAtMost() {
        CHECK.says("THE TAPE: bytes, 40 at most");
        for (int n = 1; n <= 4; n++) {
            for (int had = 36; had <= 40; had++) {
                ArrowTurner x = new ArrowTurner();
                for (int k = 0; k < had; k++) {
                    due("feed of byte " + k, x.feed(k, 1), k + 1);
                }
                boolean fits = had + n <= 40;
                due("feed of " + n + " behind " + had, x.feed(0, n), fits ? had + n : FULL);
                due("count(4)", x.count(4), fits ? had + n : had);
                due("wipe()", x.wipe(), fits ? had + n : had);
                due("feed of 4 behind wipe()", x.feed(0, 4), 4);
            }
        }
        ArrowTurner tens = new ArrowTurner();
        for (int k = 1; k <= 10; k++) {
            due("four at a time", tens.feed(-1, 4), 4 * k);
        }
        due("a 41st", tens.feed('4', 1), FULL);
        due("read() of 40 behind it", tens.read(), -1000);
        due("a first one again", tens.feed('4', 1), 1);
    }

    private static void everyByte() {
        CHECK.says("The n lowest bytes of v come, the highest of these first");
        int v = '3' << 24 | ';' << 16 | '0' << 8 | '2';
        String[] wants = {"2", ";02", "3;02"};
        int[] counts = {1, 3, 4};
        for (int i = 0; i < 3; i++) {
            ArrowTurner x = new ArrowTurner();
            if (counts[i] == 3) {
                x.feed('3', 1);
            }
            x.feed(v, counts[i]);
            due("read() of " + wants[i], x.read(), counts[i] == 1 ? 0 : 1);
            CHECK.same("THE NET", Check.spelled(x), counts[i] == 1 ? "2" : "3;02");
        }
        for (int b = 0; b < 256; b++) {
            ArrowTurner x = new ArrowTurner();
            due("feed(" + b + ", 1)", x.feed(b, 1), 1);
            due("read() of byte " + b, x.read(), b >= '1' && b <= '7' ? 0 : -1000);
            due("feed, all above it", x.feed(0xffffff00 | b, 1), 1);
            due("read() of byte " + b, x.read(), b >= '1' && b <= '7' ? 0 : -1000);
        }
        due("feed(MIN, 4)", new ArrowTurner().feed(Integer.MIN_VALUE, 4), 4);
        due("feed(MAX, 4)", new ArrowTurner().feed(Integer.MAX_VALUE, 4), 4);
    }

    private static void textOfANet() {
        CHECK.says("TEXT of a NET: a digit (N), then for each EDGE, by numbers, a ; and two digits");
        for (String text : TEXTS) {
            ArrowTurner x = new ArrowTurner();
            Check.feed(x, text);
            int edges = text.length() / 3;
            due("read() of " + text, x.read(), edges);
            due("N", x.count(0), text.charAt(0) - '0');
            due("EDGES", x.count(1), edges);
            due("THE TAPE", x.count(4), 0);
            CHECK.same("THE NET", Check.spelled(x), text);
            for (int e = 0; e < edges; e++) {
                int from = text.charAt(2 + 3 * e) - '0';
                int to = text.charAt(3 + 3 * e) - '0';
                due("LOW of " + e, x.of(e, 0), Math.min(from, to));
                due("HIGH of " + e, x.of(e, 1), Math.max(from, to));
                due("its bit", x.of(e, 3), from < to ? 0 : 1);
            }
        }
        for (int n = 1; n <= 7; n++) {
            ArrowTurner x = new ArrowTurner();
            x.feed('0' + n, 1);
            due("read() of N alone", x.read(), 0);
            due("N", x.count(0), n);
            due("EDGES", x.count(1), 0);
        }
    }

    /** Whether a byte may stand at a place of a TEXT, behind what is there of it. */
    private static boolean fits(String before, int b) {
        int at = before.length();
        if (at == 0) {
            return b >= '1' && b <= '7';
        }
        if (at % 3 == 1) {
            return b == ';' && at < 31;
        }
        boolean isNode = b >= '0' && b < before.charAt(0);
        char other = before.charAt(at - 1);
        boolean isThere = before.contains(";" + other + (char) b) || before.contains(";" + (char) b + other);
        return isNode && (at % 3 == 2 || b != other && !isThere);
    }

    private static void faultOfEveryByte() {
        CHECK.says("FAULT: the place (from 0) of the first byte that is not as it must be");
        for (String text : TEXTS) {
            for (int at = 0; at <= text.length(); at++) {
                String before = text.substring(0, at);
                for (int b = 0; b < 256; b++) {
                    ArrowTurner x = new ArrowTurner();
                    Check.feed(x, before);
                    x.feed(b, 1);
                    int ended = at % 3 == 0 ? at / 3 : -1000 - at - 1;
                    due("read() of " + before + " and byte " + b, x.read(), fits(before, b) ? ended : -1000 - at);
                }
            }
        }
    }

    private static void faultOfAnEnd() {
        CHECK.says("FAULT: If it ends ahead of a byte that must be there: how many bytes there are");
        for (String text : TEXTS) {
            for (int at = 0; at <= text.length(); at++) {
                ArrowTurner x = new ArrowTurner();
                Check.feed(x, text.substring(0, at));
                due("read() of " + text.substring(0, at), x.read(), at % 3 == 1 ? at / 3 : -1000 - at);
            }
        }
        due("read() of nothing", new ArrowTurner().read(), -1000);
    }

    private static void faultOfAnEleventh() {
        CHECK.says("FAULT: the ; of an 11th EDGE");
        String[] behind = {";", ";0", ";02", ";02;", ";99", "x", ";02;15;26", "0"};
        for (String more : behind) {
            ArrowTurner x = new ArrowTurner();
            Check.feed(x, TEN + more);
            due("read() of 10 and " + more, x.read(), -1031);
        }
        ArrowTurner ten = new ArrowTurner();
        Check.feed(ten, TEN);
        due("read() of 10", ten.read(), 10);
    }

    private static void faultOfTheFirst() {
        CHECK.says("FAULT, read from the left: the first byte");
        String[] texts = {"8;;;;", "0;01", "4:01;99", "4;45;;", "4;00;00", "4;01;10;44", "4;01;01;", "47;01", "4 ;01"};
        int[] places = {0, 0, 1, 2, 3, 6, 6, 1, 1};
        for (int i = 0; i < texts.length; i++) {
            ArrowTurner x = new ArrowTurner();
            Check.feed(x, texts[i]);
            due("read() of " + texts[i], x.read(), -1000 - places[i]);
        }
    }

    private static void theFaultChangesNothing() {
        CHECK.says("THE TAPE, which is empty then (by a FAULT, too); THE NET is as it was");
        String[] texts = {"", "8", "7", "3;01;1", "7;65;06;45;34;32;21;10;13;46;53;", "2;11", "1;"};
        for (String text : texts) {
            ArrowTurner x = Check.net("4;10;32;20");
            x.fire(1);
            x.firer(1, 3);
            x.hold(2, 0, 5);
            String before = States.kept(x);
            Check.feed(x, text);
            boolean isText = text.equals("7");
            due("read() of " + text, x.read() >= 0 ? 1 : 0, isText ? 1 : 0);
            due("THE TAPE", x.count(4), 0);
            CHECK.that("THE NET behind " + text, isText || States.kept(x).equals(before));
            due("HOLDERS stay", x.taken(2, 1), 3);
            due("read() again, of nothing", x.read(), -1000);
        }
    }

    private static void spelledAsTheArrowsAre() {
        CHECK.says("SPELLED: THE NET by such a TEXT, with THE ARROWS as they are");
        for (String text : TEXTS) {
            ArrowTurner x = Check.net(text);
            for (int i = 0; i < text.length(); i++) {
                due("spell(" + i + ") of " + text, x.spell(i), text.charAt(i));
            }
            due("spell, one more", x.spell(text.length()), NOT);
            due("spell, two more", x.spell(text.length() + 1), NOT);
            due("spell(-1)", x.spell(-1), BAD);
            int all = (1 << x.count(1)) - 1;
            x.set(all - x.arrows());
            for (int e = 0; e < x.count(1); e++) {
                due("all turned, " + e, x.spell(2 + 3 * e), text.charAt(3 + 3 * e));
                due("all turned, " + e, x.spell(3 + 3 * e), text.charAt(2 + 3 * e));
                due("the ;", x.spell(1 + 3 * e), ';');
            }
        }
        due("a new object", new ArrowTurner().spell(0), '4');
        due("a new object", new ArrowTurner().spell(1), NOT);
    }

    private static void holdersFromNoughtToFive() {
        CHECK.says("HOLDERS 0 .. 5");
        ArrowTurner x = Check.net("3;01;12;02");
        for (int h = -1; h <= 6; h++) {
            boolean isOne = h >= 0 && h <= 5;
            due("drop(" + h + ")", x.drop(h), isOne ? 0 : BAD);
            due("taken(" + h + ", 0)", x.taken(h, 0), isOne ? NOTHING : BAD);
            due("put(" + h + ", 0, 0)", x.put(h, 0, 0), isOne ? NOTHING : BAD);
            due("get(" + h + ", 0)", x.get(h, 0), NO);
            due("judge(" + h + ", 0)", x.judge(h, 0), isOne ? NOTHING : BAD);
            due("hold(" + h + ", 0, 7)", x.hold(h, 0, 7), isOne ? 7 : BAD);
            due("hold(" + h + ", 1, 321)", x.hold(h, 1, 321), isOne ? 321 : BAD);
            due("row(" + h + ", 2)", x.row(h, 2), isOne ? 2 : BAD);
            due("put(" + h + ", 1, 9)", x.put(h, 1, h), isOne ? 1 : BAD);
        }
        for (int h = 0; h <= 5; h++) {
            due("each holds its own", x.get(h, 1), h);
        }
    }

    private static void nothingAtFirst() {
        CHECK.says("HOLDERS hold nothing (at first)");
        for (int h = 0; h <= 5; h++) {
            ArrowTurner x = new ArrowTurner();
            for (int kind = 0; kind < 3; kind++) {
                due("taken(" + h + ", " + kind + ")", x.taken(h, kind), NOTHING);
            }
            due("get(" + h + ", 0)", x.get(h, 0), NO);
            due("put(" + h + ", 0, 1)", x.put(h, 0, 1), NOTHING);
            due("judge(" + h + ", 0)", x.judge(h, 0), NOTHING);
            due("drop(" + h + ")", x.drop(h), 0);
            x.hold(h, 0, 0);
            due("drop(" + h + ")", x.drop(h), 1);
            due("taken, dropped", x.taken(h, 0), NOTHING);
            due("drop again", x.drop(h), 0);
        }
    }

    private static void withHowManyThereWere() {
        CHECK.says("an ARROWING (a number, with how many EDGES there were), a WORD (a number, with N as it was)");
        for (int edges = 0; edges <= 10; edges++) {
            ArrowTurner x = Check.net(K5.substring(0, 1 + 3 * edges));
            int all = (1 << edges) - 1;
            due("hold(0, 0, " + all + ")", x.hold(0, 0, all), all);
            x.hold(1, 1, 54321);
            x.cut(0);
            x.nodes(7);
            x.edge(5, 6);
            due("the number", x.taken(0, 0), all);
            due("EDGES as there were", x.taken(0, 1), edges);
            due("the WORD", x.taken(1, 0), 54321);
            due("N as it was", x.taken(1, 2), 5);
        }
        int[] words = {1, 21, 321, 4321, 54321, 654321, 7654321};
        for (int n = 1; n <= 7; n++) {
            ArrowTurner x = new ArrowTurner();
            x.nodes(n);
            due("hold(0, 1, " + words[n - 1] + ")", x.hold(0, 1, words[n - 1]), words[n - 1]);
            x.nodes(8 - n);
            due("the WORD", x.taken(0, 0), words[n - 1]);
            due("N as it was", x.taken(0, 2), n);
        }
    }

    private static void takenForKinds() {
        CHECK.says("taken for: 0 an ARROWING or a WORD; 1 an ARROWING; 2 a WORD");
        ArrowTurner x = Check.net("3;01;12");
        x.hold(0, 0, 3);
        x.hold(1, 1, 321);
        x.row(2, 0);
        x.row(3, 20);
        int[][] want = {{3, 2, OTHER}, {321, OTHER, 3}, {OTHER, OTHER, OTHER}, {OTHER, OTHER, OTHER},
            {NOTHING, NOTHING, NOTHING}};
        for (int h = 0; h < want.length; h++) {
            due("taken(" + h + ", -1)", x.taken(h, -1), BAD);
            due("taken(" + h + ", 3)", x.taken(h, 3), BAD);
            for (int kind = 0; kind < 3; kind++) {
                due("taken(" + h + ", " + kind + ")", x.taken(h, kind), want[h][kind]);
            }
        }
    }

    private static void rowsUpToTwenty() {
        CHECK.says("a ROW of 0 .. 20 ints");
        for (int n = 0; n <= 20; n++) {
            ArrowTurner x = new ArrowTurner();
            due("row(0, " + n + ")", x.row(0, n), n);
            for (int i = -1; i <= 20; i++) {
                boolean isOne = i >= 0 && i < n;
                due("get(0, " + i + ") of " + n, x.get(0, i), isOne ? 0 : NO);
                due("put(0, " + i + ", 5) of " + n, x.put(0, i, 5), isOne ? 1 : NO_PLACE);
                due("get(0, " + i + ") then", x.get(0, i), isOne ? 5 : NO);
            }
        }
        ArrowTurner x = new ArrowTurner();
        due("row(0, 21)", x.row(0, 21), BAD);
        due("row(0, -1)", x.row(0, -1), -14);
        due("drop(0)", x.drop(0), 0);
    }

    private static void noughtAtFirst() {
        CHECK.says("a ROW of ints, 0 at first");
        ArrowTurner x = Check.net("3;01;12");
        for (int n = 20; n >= 0; n--) {
            x.row(4, n);
            long sum = 0;
            for (int i = 0; i < n; i++) {
                sum += Math.abs(x.get(4, i));
            }
            due("all of " + n, sum, 0);
            x.put(4, n - 1, 9);
            x.put(4, 0, 9);
        }
        x.row(4, 20);
        x.put(4, 19, 3);
        x.hold(4, 0, 3);
        x.row(4, 20);
        due("behind an ARROWING", x.get(4, 19), 0);
        x.put(4, 19, 3);
        x.drop(4);
        x.row(4, 20);
        due("behind nothing", x.get(4, 19), 0);
        x.put(4, 19, 3);
        x.row(4, 1);
        x.row(4, 20);
        due("behind a shorter one", x.get(4, 19), 0);
        due("and its first", x.get(4, 0), 0);
    }

    private static void put(ArrowTurner x, int h, int what) {
        switch (what) {
            case 0:
                x.drop(h);
                break;
            case 1:
                x.hold(h, 0, 2);
                break;
            case 2:
                x.hold(h, 1, 231);
                break;
            default:
                x.row(h, 3);
        }
    }

    private static void oneHolderOneThing() {
        CHECK.says("HOLDERS hold nothing, an ARROWING, a WORD, or a ROW");
        int[] number = {NOTHING, 2, 231, OTHER};
        int[] edges = {NOTHING, 2, OTHER, OTHER};
        int[] nodes = {NOTHING, OTHER, 3, OTHER};
        int[] puts = {NOTHING, OTHER, OTHER, 1};
        for (int before = 0; before < 4; before++) {
            for (int now = 0; now < 4; now++) {
                ArrowTurner x = Check.net("3;01;12");
                put(x, 5, before);
                put(x, 0, before);
                put(x, 5, now);
                due("taken(5, 0)", x.taken(5, 0), number[now]);
                due("taken(5, 1)", x.taken(5, 1), edges[now]);
                due("taken(5, 2)", x.taken(5, 2), nodes[now]);
                due("judge(5, 0)", x.judge(5, 0), now == 3 ? 0 : puts[now]);
                due("put(5, 2, 1)", x.put(5, 2, 1), puts[now]);
                due("get(5, 2)", x.get(5, 2), now == 3 ? 1 : NO);
                due("drop(5)", x.drop(5), now);
                due("the other HOLDER", x.drop(0), before);
            }
        }
    }

    /** A HOLDER's ROW that tells the FLOWS of an ARROWING, with so many numbers more or less. */
    private static void tell(ArrowTurner x, int h, int arrowing, int more) {
        x.row(h, x.count(5) + more);
        int k = 0;
        for (int e = 0; e < x.count(1); e++) {
            if (x.of(e, 2) == 1) {
                x.put(h, k, (int) x.flow(arrowing, e));
                k++;
            }
        }
    }

    private static void judgedOtherwise() {
        CHECK.says("JUDGED: the first place (from 0) that is otherwise");
        for (String text : new String[] {"3;01;12;20", TEN, K5}) {
            ArrowTurner x = Check.net(text);
            for (int k = 0; k < x.count(5); k++) {
                tell(x, 1, 5, 0);
                long so = x.get(1, k);
                x.put(1, k, (int) so + 1);
                due("one too much at " + k + " of " + text, x.judge(1, 5), k);
                x.put(1, k, (int) so - 1);
                due("one too little at " + k, x.judge(1, 5), k);
                x.put(1, k, (int) so ^ 1 << 31);
                due("the highest bit at " + k, x.judge(1, 5), k);
                x.put(1, x.count(5) - 1, 99);
                due("the first of two", x.judge(1, 5), k);
            }
        }
    }

    private static void judgedTooShort() {
        CHECK.says("JUDGED: .. (where the ROW has no number any more, too)");
        for (String text : new String[] {"3;01;12;20", TEN, K5}) {
            ArrowTurner x = Check.net(text);
            for (int less = 1; less <= x.count(5); less++) {
                tell(x, 1, 5, -less);
                due("too short by " + less + ", " + text, x.judge(1, 5), x.count(5) - less);
            }
            tell(x, 1, 5, -1);
            if (x.count(5) > 1) {
                x.put(1, 0, 50);
                due("otherwise ahead of that", x.judge(1, 5), 0);
            }
            x.row(1, 0);
            due("no number at all", x.judge(1, 5), 0);
        }
    }

    private static void judgedTooLong() {
        CHECK.says("JUDGED: .. of a longer ROW how many CHORDS there are");
        for (String text : new String[] {"4", "4;01;12", "3;01;12;20", TEN, K5}) {
            ArrowTurner x = Check.net(text);
            for (int more = 1; more <= 20 - x.count(5); more += more > 1 ? 6 : 1) {
                tell(x, 1, 0, more);
                due("too long by " + more + ", " + text, x.judge(1, 0), x.count(5));
                x.put(1, x.count(5), 7);
                due("whatever is there", x.judge(1, 0), x.count(5));
            }
            tell(x, 1, 0, 20 - x.count(5));
            due("20 numbers", x.judge(1, 0), x.count(5));
            if (x.count(5) > 0) {
                x.put(1, x.count(5) - 1, 50);
                due("otherwise ahead of that", x.judge(1, 0), x.count(5) - 1);
            }
        }
    }

    private static void judgedAllIsSo() {
        CHECK.says("JUDGED: .. NOT: all is so");
        for (String text : new String[] {"1", "4", "4;01;12", "3;01;12;20", TEN, K5}) {
            ArrowTurner x = Check.net(text);
            int all = (1 << x.count(1)) - 1;
            for (int a : new int[] {0, all, all / 3, all / 5}) {
                tell(x, 3, a, 0);
                due("judge(3, " + a + ") of " + text, x.judge(3, a), NOT);
            }
        }
        // Of CHORDS that were there no number is left over.
        ArrowTurner fewer = Check.net(K5);
        while (fewer.count(1) > 0) {
            tell(fewer, 2, 0, 0);
            due("judge(2, 0), " + fewer.count(1) + " EDGES left", fewer.judge(2, 0), NOT);
            fewer.cut(fewer.count(1) - 1);
        }
        due("judge of an empty ROW", fewer.judge(2, 0), NOT);
        ArrowTurner round = Check.net("3;01;12;20");
        tell(round, 0, 4, 0);
        due("of a ROUND", round.judge(0, 4), NOT);
        round.put(0, 0, -3);
        due("of a ROUND", round.judge(0, 4), NOT);
        due("of the other ROUND", round.judge(0, 3), 0);
    }

    private static ArrowTurner imaged() {
        ArrowTurner x = Check.net("5;01;12;20;34");
        x.firer(3, 2);
        x.firer(5, 0);
        x.set(0);
        x.fire(0);
        x.fire(1);
        x.drown(1);
        x.image();
        return x;
    }

    private static void imageKeeps() {
        CHECK.says("THE IMAGE keeps N, EDGES, THE ARROWS, THE LOG, FIRERS");
        String want = States.kept(imaged());
        for (int change = 0; change < 10; change++) {
            ArrowTurner x = imaged();
            switch (change) {
                case 0: x.nodes(1); break;
                case 1: x.edge(4, 0); break;
                case 2: x.cut(0); break;
                case 3: x.set(0); break;
                case 4: x.fire(3); break;
                case 5: x.back(); break;
                case 6: x.thin(); break;
                case 7: x.firer(0, 0); break;
                case 8: x.set(x.arrows()); break;
                default:
                    Check.feed(x, "7;65;06;45;34;32;21;10;13;46;53");
                    x.read();
            }
            CHECK.that("change " + change + " changes", change == 8 || !States.kept(x).equals(want));
            if (change < 3) {
                x.many(1);
                x.tutte(2, 0);
            }
            due("undo() of change " + change, x.undo(), 4);
            due("CHORDS behind it", x.count(5), 1);
            due("FLOW behind it", x.flow(4, 2), -3);
            due("many(1) behind it", x.many(1), 2);
            due("tutte(2, 0) behind it", x.tutte(2, 0), 12);
            CHECK.same("behind undo()", States.kept(x), want);
            due("count(3)", x.count(3), 2);
            due("a third FIRER", x.firer(0, 0), 2);
        }
    }

    private static void imageDoesNotKeep() {
        CHECK.says("THE IMAGE keeps .. (not THE TAPE, HOLDERS)");
        ArrowTurner x = new ArrowTurner();
        x.feed('7', 1);
        x.hold(0, 0, 0);
        x.hold(1, 1, 4321);
        x.row(2, 2);
        x.image();
        Check.feed(x, ";0");
        x.drop(0);
        x.row(1, 1);
        x.put(2, 1, 8);
        x.hold(3, 1, 1234);
        due("undo()", x.undo(), 0);
        due("THE TAPE", x.count(4), 3);
        due("drop(0)", x.drop(0), 0);
        due("drop(1)", x.drop(1), 3);
        due("get(2, 1)", x.get(2, 1), 8);
        due("taken(3, 0)", x.taken(3, 0), 1234);
        x.wipe();
        x.undo();
        due("THE TAPE is not there again", x.count(4), 0);
    }

    private static void imageStays() {
        CHECK.says("All that THE IMAGE keeps is as it was then (THE IMAGE stays)");
        due("none was kept", new ArrowTurner().undo(), STATE);
        due("image() of a new object", new ArrowTurner().image(), 0);
        ArrowTurner x = imaged();
        String want = States.kept(x);
        for (int again = 0; again < 3; again++) {
            x.nodes(again + 1);
            due("undo()", x.undo(), 4);
            CHECK.same("behind undo()", States.kept(x), want);
            x.back();
            x.drown(4);
        }
        due("undo() of undo()", x.undo(), 4);
        due("undo() once more", x.undo(), 4);
        CHECK.same("behind it", States.kept(x), want);
        x.nodes(6);
        due("image(), a newer one", x.image(), 0);
        x.nodes(3);
        due("undo()", x.undo(), 0);
        due("N", x.count(0), 6);
        due("THE LOG", x.count(2), 0);
        due("FIRERS", x.count(3), 2);
    }

    private static void imageTellsEdges() {
        CHECK.says("THE IMAGE is kept: how many EDGES there are");
        for (int edges = 0; edges <= 10; edges++) {
            ArrowTurner x = Check.net(TEN.substring(0, 1 + 3 * edges));
            due("image()", x.image(), edges);
            due("image() again", x.image(), edges);
            due("undo()", x.undo(), edges);
            x.nodes(2);
            due("undo() behind nodes()", x.undo(), edges);
            CHECK.same("THE NET", Check.spelled(x), TEN.substring(0, 1 + 3 * edges));
        }
    }
}
