/** Terms, section 4 (FIRERS): a test for each sentence that names an edge. */
public final class FirerTermsTest {
    private static final Check CHECK = new Check("FirerTermsTest");
    private static final int BAD = -1, NOT = -2, FULL = -3;
    private static final int FIRST = 0, LAST = 1, FROM = 2, RARE = 3, WIDE = 4, OFTEN = 5;
    /** A path: each NODE is a SOURCE in its turn. */
    private static final String PATH = "7;01;12;23;34;45;56";
    /** Three parts, each with its lesser NODE as a SOURCE. */
    private static final String PARTS = "6;01;23;45";

    private static void due(String call, long got, long want) {
        CHECK.due(call, got, want);
    }

    public static void main(String[] args) {
        fourAtMost();
        kindAndV();
        numbersStay();
        timesOneBehindTheOther();
        endsWithoutSource();
        theArrowsFirst();
        asTheArrowsAre();
        howOften();
        inThought();
        first();
        last();
        from();
        rare();
        wide();
        often();
        everyRunAnew();
        CHECK.end();
    }

    /** The NODES that a FIRER fires in a RUN of so many as are wanted. */
    private static void fires(String net, int kind, int v, String want) {
        ArrowTurner x = Check.net(net);
        int firer = x.firer(kind, v);
        StringBuilder got = new StringBuilder();
        for (int k = 0; k < want.length(); k++) {
            got.append(x.runs(firer, want.length(), 10 + k));
        }
        CHECK.same(net + ", kind " + kind + ", v " + v, got.toString(), want);
    }

    private static void fourAtMost() {
        CHECK.says("FIRERS are numbered from 0 as they come, 4 at most");
        ArrowTurner x = Check.net(PARTS);
        for (int f = 0; f < 4; f++) {
            due("runs(" + f + ", 0, 1) ahead of it", x.runs(f, 0, 1), BAD);
            due("firer, the number", x.firer(f, f), f);
            due("count(3)", x.count(3), f + 1);
            due("runs(" + f + ", 0, 1)", x.runs(f, 0, 1), 0);
        }
        due("a fifth", x.firer(0, 0), FULL);
        due("count(3)", x.count(3), 4);
        due("runs(4, 0, 1)", x.runs(4, 0, 1), BAD);
        due("runs(-1, 0, 1)", x.runs(-1, 0, 1), BAD);
        int[] from = {0, 2, 2, 4};
        ArrowTurner up = Check.net(PARTS);
        ArrowTurner down = Check.net(PARTS);
        for (int f = 0; f < 4; f++) {
            up.firer(FROM, f);
            down.firer(FROM, 3 - f);
        }
        for (int f = 0; f < 4; f++) {
            due("each has its own v, " + f, up.runs(f, 1, 10), from[f]);
            due("each has its own v, " + f, down.runs(f, 1, 10), from[3 - f]);
        }
        int[] first = {0, 4, 2, 4};
        for (int f = 0; f < 4; f++) {
            due("the first that " + f + " fires", x.runs(f, 1, 10), first[f]);
        }
    }

    private static void kindAndV() {
        CHECK.says("a KIND, a number v (0 .. 6)");
        for (int kind = -1; kind <= 6; kind++) {
            for (int v = -1; v <= 7; v++) {
                boolean isOne = kind >= 0 && kind <= 5 && v >= 0 && v <= 6;
                due("firer(" + kind + ", " + v + ")", new ArrowTurner().firer(kind, v), isOne ? 0 : BAD);
            }
        }
        ArrowTurner x = new ArrowTurner();
        x.nodes(1);
        due("v is no NODE", x.firer(FROM, 6), 0);
    }

    private static void numbersStay() {
        CHECK.says("FIRERS stay behind nodes()");
        ArrowTurner x = Check.net(PARTS);
        x.firer(FROM, 5);
        x.firer(LAST, 0);
        x.nodes(1);
        due("count(3)", x.count(3), 2);
        due("runs(1, 40, 1), N 1", x.runs(1, 40, 1), 0);
        Check.feed(x, PATH);
        x.read();
        due("count(3) behind read()", x.count(3), 2);
        x.set(5);
        due("FROM 5", x.runs(0, 1, 10), 1);
        due("LAST", x.runs(1, 1, 10), 3);
        x.set(31);
        due("FROM 5", x.runs(0, 1, 10), 5);
    }

    private static void timesOneBehindTheOther() {
        CHECK.says("it CHOOSES, n times one behind the other, a SOURCE of the ARROWING as it is by then");
        ArrowTurner x = Check.net("3;01;12");
        x.firer(FIRST, 0);
        String fired = "0" + "102".repeat(13);
        for (int n = 0; n <= 40; n++) {
            due("runs(0, " + n + ", 1)", x.runs(0, n, 1), n);
            due("the last of " + n, x.runs(0, n, 9 + n), n == 0 ? BAD : x.runs(0, 40, 9 + n));
            due("none behind it", x.runs(0, n, 10 + n), n == 40 ? BAD : NOT);
        }
        for (int k = 0; k < 40; k++) {
            due("the " + k + "th", x.runs(0, 40, 10 + k), fired.charAt(k) - '0');
        }
        due("runs(0, 41, 1)", x.runs(0, 41, 1), BAD);
        due("runs(0, -1, 1)", x.runs(0, -1, 1), BAD);
    }

    private static void endsWithoutSource() {
        CHECK.says("if there is none, the RUN ends ahead of that");
        for (int kind = 0; kind <= 5; kind++) {
            ArrowTurner none = new ArrowTurner();
            none.firer(kind, 0);
            due("no EDGES, how many", none.runs(0, 40, 1), 0);
            due("no EDGES, at its end", none.runs(0, 40, 0), 0);
            due("no EDGES, as THE ARROWS are", none.runs(0, 40, 2), NOT);
            due("no EDGES, the first", none.runs(0, 40, 10), NOT);
            due("no EDGES, how often", none.runs(0, 40, 60), 0);
            ArrowTurner tail = Check.net("5;01;12;20;32;43");
            tail.firer(kind, 0);
            due("a ROUND, how many", tail.runs(0, 40, 1), 3);
            due("a ROUND, 2 of these", tail.runs(0, 2, 1), 2);
            due("a ROUND, the first", tail.runs(0, 40, 10), 4);
            due("a ROUND, the second", tail.runs(0, 40, 11), 3);
            due("a ROUND, the third", tail.runs(0, 40, 12), 4);
            due("a ROUND, no fourth", tail.runs(0, 40, 13), NOT);
            due("a ROUND, how often 4", tail.runs(0, 40, 64), 2);
            due("a ROUND, how often 3", tail.runs(0, 40, 63), 1);
            due("a ROUND, how often 0", tail.runs(0, 40, 60), 0);
            due("a ROUND, at its end", tail.runs(0, 40, 0), 4);
        }
    }

    private static void theArrowsFirst() {
        CHECK.says("a SOURCE of the ARROWING as it is by then (THE ARROWS first)");
        ArrowTurner x = Check.net(PATH);
        x.firer(LAST, 0);
        for (int v = 0; v < 7; v++) {
            due("the first one", x.runs(0, 1, 10), v);
            due("at the end of none", x.runs(0, 0, 0), x.arrows());
            x.fire(v);
        }
        due("all were FIRED", x.arrows(), 0);
        due("runs(0, 0, 2)", x.runs(0, 0, 2), NOT);
    }

    private static void asTheArrowsAre() {
        CHECK.says("behind how many of them the ARROWING was first (1 at least) as THE ARROWS are; NOT: behind none");
        for (int n = 2; n <= 7; n++) {
            ArrowTurner x = Check.net(PATH.substring(0, 3 * n - 2));
            x.firer(LAST, 0);
            x.firer(RARE, 0);
            for (int k = 0; k <= 40; k++) {
                due("runs(0, " + k + ", 2) of " + n, x.runs(0, k, 2), k < n ? NOT : n);
            }
            due("runs(1, 40, 2)", x.runs(1, 40, 2), n);
            due("runs(1, 0, 2), a RUN anew", x.runs(1, 0, 2), NOT);
            due("runs(1, 1, 2), a RUN anew", x.runs(1, 1, 2), NOT);
        }
        ArrowTurner never = Check.net("3;01;12");
        never.firer(FIRST, 0);
        due("runs(0, 40, 2), never again", never.runs(0, 40, 2), NOT);
        never.fire(0);
        due("runs(0, 2, 2)", never.runs(0, 2, 2), NOT);
        due("runs(0, 3, 2)", never.runs(0, 3, 2), 3);
        due("runs(0, 40, 2), the first time", never.runs(0, 40, 2), 3);
        ArrowTurner round = Check.net("4;01;12;20;32");
        round.firer(FIRST, 0);
        due("a ROUND, runs(0, 40, 2)", round.runs(0, 40, 2), NOT);
    }

    private static void howOften() {
        CHECK.says("60 and a NODE: how often that was FIRED");
        for (int n = 2; n <= 7; n++) {
            ArrowTurner x = Check.net(n + PATH.substring(1, 3 * n - 2));
            x.firer(LAST, 0);
            for (int v = 0; v < n; v++) {
                due("none, 60 and " + v, x.runs(0, 0, 60 + v), 0);
                due("runs(0, 40, 60 and " + v + ") of " + n, x.runs(0, 40, 60 + v), (40 + n - 1 - v) / n);
                due("runs(0, " + v + ", 60 and " + v + ")", x.runs(0, v, 60 + v), 0);
                due("runs(0, " + (v + 1) + ", 60 and " + v + ")", x.runs(0, v + 1, 60 + v), 1);
            }
            due("60 and " + n, x.runs(0, 40, 60 + n), BAD);
            due("59", x.runs(0, 40, 59), BAD);
        }
    }

    private static void inThought() {
        CHECK.says("which is FIRED in thought");
        ArrowTurner x = Check.net(PARTS);
        x.firer(RARE, 0);
        x.fire(0);
        int before = x.arrows();
        for (int what : new int[] {0, 1, 2, 10, 49, 60, 65}) {
            x.runs(0, 40, what);
            due("arrows() behind runs(0, 40, " + what + ")", x.arrows(), before);
            due("count(2)", x.count(2), 1);
        }
    }

    private static void first() {
        CHECK.says("0 FIRST: the least SOURCE");
        fires(PARTS, FIRST, 0, "0101");
        fires(PARTS, FIRST, 6, "0101");
        fires("7;65", FIRST, 0, "6565");
        fires("7;65;10", FIRST, 5, "1010");
        fires("7;06;16;26;36;46;56", FIRST, 0, "0123456012");
    }

    private static void last() {
        CHECK.says("1 LAST, under FIRST: the greatest SOURCE");
        fires(PARTS, LAST, 0, "4545");
        fires(PARTS, LAST, 6, "4545");
        fires("7;01", LAST, 0, "0101");
        fires("7;06;16;26;36;46;56", LAST, 0, "5432106543");
    }

    private static void from() {
        CHECK.says("2 FROM: of SOURCES v or more the least, if there is one, else the least SOURCE");
        fires(PARTS, FROM, 0, "0101");
        fires(PARTS, FROM, 1, "2323");
        fires(PARTS, FROM, 2, "2323");
        fires(PARTS, FROM, 3, "4545");
        fires(PARTS, FROM, 4, "4545");
        fires(PARTS, FROM, 5, "0101");
        fires(PARTS, FROM, 6, "0101");
        fires("7;65;43;21", FROM, 6, "6212");
        fires("7;65;43;21", FROM, 5, "6565");
        fires("7;56;43;21", FROM, 6, "2121");
        fires("2;01", FROM, 6, "0101");
    }

    private static void rare() {
        CHECK.says("3 RARE: of SOURCES that it has FIRED least often in this RUN so far the greatest");
        fires(PARTS, RARE, 0, "452301452301");
        fires(PARTS, RARE, 6, "452301452301");
        fires("2;01", RARE, 0, "01010101");
        fires("6;01;12;34;45", RARE, 0, "345012345012");
        fires("7;01;02;03;04;05;06", RARE, 0, "06543210654321");
        fires("7;20;31;41;51", RARE, 0, "54321054");
    }

    private static void wide() {
        CHECK.says("4 WIDE: of SOURCES with most EDGES that which FROM would have, were these alone SOURCES");
        fires(PARTS, WIDE, 0, "0101");
        fires(PARTS, WIDE, 3, "4545");
        fires(PARTS, WIDE, 5, "0101");
        // 0 has one EDGE, 2 has two, 5 has two.
        String wider = "7;01;23;24;56;51";
        fires(wider, WIDE, 0, "2");
        fires(wider, WIDE, 2, "2");
        fires(wider, WIDE, 3, "5");
        fires(wider, WIDE, 5, "5");
        fires(wider, WIDE, 6, "2");
        fires("7;60;61;12", WIDE, 0, "6");
        fires("7;01;02;03;04;05;61", WIDE, 6, "0");
        fires("7;60;61;62;63;64;51", WIDE, 5, "6");
    }

    private static void often() {
        CHECK.says("5 OFTEN: of SOURCES that it has FIRED most often in this RUN so far the greatest");
        fires(PARTS, OFTEN, 0, "454545");
        fires(PARTS, OFTEN, 6, "454545");
        fires("6;01;12;34;45", OFTEN, 0, "3435435435");
        fires("7;01;02;03;04;05;06", OFTEN, 0, "06543210654321");
        fires("7;20;31;41;51", OFTEN, 0, "543215431543");
    }

    private static void everyRunAnew() {
        CHECK.says("that it has FIRED in this RUN so far");
        ArrowTurner x = Check.net(PARTS);
        x.firer(RARE, 0);
        x.firer(OFTEN, 0);
        for (int again = 0; again < 3; again++) {
            due("RARE begins anew", x.runs(0, 3, 12), 2);
            due("OFTEN begins anew", x.runs(1, 3, 12), 4);
            due("how often anew", x.runs(0, 40, 64), 7);
            due("how often anew", x.runs(1, 40, 64), 20);
        }
        x.fire(4);
        due("what was FIRED truly does not count", x.runs(0, 1, 10), 5);
    }
}
