/** Promises 34 to 37: feed, wipe, read, spell. */
public final class TextsTest {
    private static final Check CHECK = new Check("TextsTest");
    private static final int BAD = -1, NOT = -2, FULL = -3;

    private static void due(String call, long got, long want) {
        CHECK.due(call, got, want);
    }

    public static void main(String[] args) {
        feed();
        wipe();
        read();
        faults();
        spell();
        CHECK.end();
    }

    private static void feed() {
        ArrowTurner x = new ArrowTurner();
        due("34 feed(n 0)", x.feed('3', 0), BAD);
        due("34 feed(n 5)", x.feed('3', 5), BAD);
        due("34 feed(n -1)", x.feed('3', -1), BAD);
        due("34 refused", x.count(4), 0);
        due("34 the highest first", x.feed('3' << 24 | ';' << 16 | '0' << 8 | '2', 4), 4);
        due("34 the lowest two alone", x.feed('9' << 16 | ';' << 8 | '2', 2), 6);
        due("34 the lowest alone", x.feed(0xffffff00 | '1', 1), 7);
        due("35 read", x.read(), 2);
        due("34 THE NET", Check.spelled(x).equals("3;02;21") ? 1 : 0, 1);
        due("34 three", x.feed('2' << 16 | ';' << 8 | '1', 3), 3);
        due("34 one", x.feed('0', 1), 4);
        due("36 read", x.read(), 1);
        due("34 THE NET", Check.spelled(x).equals("2;10") ? 1 : 0, 1);
        for (int k = 1; k <= 9; k++) {
            due("34 feed four", x.feed(-1, 4), 4 * k);
        }
        due("34 feed two", x.feed(0, 2), 38);
        due("34 no room for three", x.feed(0, 3), FULL);
        due("34 no room for four", x.feed(0, 4), FULL);
        due("34 none came", x.count(4), 38);
        due("34 BAD ahead of FULL", x.feed(0, 5), BAD);
        due("34 the last two", x.feed(0, 2), 40);
        due("34 no room for one", x.feed(0, 1), FULL);
        due("34 count(4)", x.count(4), 40);
    }

    private static void wipe() {
        ArrowTurner x = Check.net("3;01");
        due("35 wipe(), nothing", x.wipe(), 0);
        x.feed(7, 3);
        due("35 wipe()", x.wipe(), 3);
        due("35 count(4)", x.count(4), 0);
        due("35 wipe() again", x.wipe(), 0);
        Check.feed(x, "2");
        due("35 what was is gone", x.read(), 0);
    }

    private static void read() {
        ArrowTurner x = Check.net("4;01;02");
        x.fire(0);
        x.firer(1, 2);
        Check.feed(x, "7;65;06;45;34;32;21;10;13;46;53");
        due("36 read(), 10 edges", x.read(), 10);
        due("36 N", x.count(0), 7);
        due("36 THE TAPE", x.count(4), 0);
        due("36 THE LOG", x.count(2), 0);
        due("36 FIRERS stay", x.count(3), 1);
        due("36 THE ARROWS", x.arrows(), 1 + 16 + 32 + 64 + 512);
        due("36 LOW", x.of(0, 0), 5);
        due("36 HIGH", x.of(0, 1), 6);
        Check.feed(x, "1");
        due("36 read(), no edges", x.read(), 0);
        due("36 N", x.count(0), 1);
        due("36 EDGES", x.count(1), 0);
        due("36 THE ARROWS", x.arrows(), 0);
    }

    private static void fault(String text, int want) {
        ArrowTurner x = Check.net("4;10;32");
        x.fire(1);
        Check.feed(x, text);
        due("36 read() of " + text, x.read(), -1000 - want);
        due("36 THE TAPE is empty", x.count(4), 0);
        due("36 THE NET stays", Check.spelled(x).equals("4;01;32") ? 1 : 0, 1);
        due("36 THE LOG stays", x.count(2), 1);
    }

    private static void faults() {
        fault("", 0);
        fault("0", 0);
        fault("8", 0);
        fault("9;01", 0);
        fault(";", 0);
        fault("\u00b4", 0);
        fault("\u0034\u0000", 1);
        fault("4:", 1);
        fault("4;01 ", 4);
        fault("44", 1);
        fault("4;01;12\u00bb", 7);
        fault("4;", 2);
        fault("4;4", 2);
        fault("4;41", 2);
        fault("4;;1", 2);
        fault("4;/1", 2);
        fault("4;0", 3);
        fault("4;00", 3);
        fault("4;04", 3);
        fault("4;0;", 3);
        fault("4;0\u00b1", 3);
        fault("4;01;01", 6);
        fault("4;01;10", 6);
        fault("4;01;12;0", 9);
        fault("4;01;12;", 8);
        fault("4;01;12;20;02", 12);
        fault("4;01;12;20;7", 11);
        fault("1;00", 3);
        fault("1;01", 3);
        fault("7;65;06;45;34;32;21;10;13;46;53;", 31);
        fault("7;65;06;45;34;32;21;10;13;46;53;02", 31);
        fault("7;65;06;45;34;32;21;10;13;46;53:", 31);
        fault("7;65;06;45;34;32;21;10;13;46;5", 30);
        fault("7;65;06;45;34;32;21;10;13;46;53456789012", 31);
    }

    private static void spell() {
        ArrowTurner x = Check.net("5;10;24");
        String want = "5;10;24";
        for (int i = 0; i < want.length(); i++) {
            due("37 spell(" + i + ")", x.spell(i), want.charAt(i));
        }
        due("37 spell(7)", x.spell(7), NOT);
        due("37 spell(8)", x.spell(8), NOT);
        due("37 spell(MAX)", x.spell(Integer.MAX_VALUE), NOT);
        due("37 spell(-1)", x.spell(-1), BAD);
        due("37 spell(MIN)", x.spell(Integer.MIN_VALUE), BAD);
        x.fire(1);
        x.drown(4);
        due("37 as THE ARROWS are", Check.spelled(x).equals("5;01;42") ? 1 : 0, 1);
        x.cut(0);
        due("37 behind cut", Check.spelled(x).equals("5;42") ? 1 : 0, 1);
        x.nodes(7);
        due("37 behind nodes", Check.spelled(x).equals("7") ? 1 : 0, 1);
    }
}
