/** Promises 27 to 31: byWord, words, turn, conjugate, off. */
public final class WordsTest {
    private static final Check CHECK = new Check("WordsTest");
    private static final int BAD = -1, NOT = -2;
    private static final int[] NO_WORDS = {0, -1, -123, 12, 1234, 122, 124, 120, 12 * 1000, 1230, 1123,
        Integer.MAX_VALUE, Integer.MIN_VALUE, -321, 1000000123};

    private static void due(String call, long got, long want) {
        CHECK.due(call, got, want);
    }

    public static void main(String[] args) {
        byWord();
        words();
        turn();
        conjugate();
        off();
        CHECK.end();
    }

    private static void byWord() {
        ArrowTurner x = Check.net("3;01;12;20");
        due("27 byWord(123)", x.byWord(123), 0);
        due("27 byWord(132)", x.byWord(132), 2);
        due("27 byWord(213)", x.byWord(213), 1);
        due("27 byWord(231)", x.byWord(231), 5);
        due("27 byWord(312)", x.byWord(312), 6);
        due("27 byWord(321)", x.byWord(321), 7);
        for (int word : NO_WORDS) {
            due("27 byWord(" + word + ")", x.byWord(word), BAD);
            due("29 turn(" + word + ")", x.turn(word), BAD);
            due("30 conjugate(" + word + ", 123)", x.conjugate(word, 123), BAD);
            due("30 conjugate(123, " + word + ")", x.conjugate(123, word), BAD);
            due("31 off(" + word + ", 123)", x.off(word, 123), BAD);
            due("31 off(123, " + word + ")", x.off(123, word), BAD);
        }
        due("27 of 7", Check.net("7;06;12").byWord(7654321), 3);
        due("27 of 1", Check.net("1").byWord(1), 0);
        due("27 of 1", Check.net("1").byWord(2), BAD);
        due("27 an 8", Check.net("7").byWord(1234568), BAD);
        due("27 arrows stay", x.arrows(), 4);
    }

    private static void words() {
        ArrowTurner x = Check.net("4;21;03");
        due("28 words(1, 0)", x.words(1, 0), 1324);
        due("28 words(1, 1)", x.words(1, 1), 6);
        due("28 words(0, 0)", x.words(0, 0), 1234);
        due("28 words(3, 0)", x.words(3, 0), 3241);
        due("28 words(2, 0)", x.words(2, 0), 2341);
        due("28 words(4, 0)", x.words(4, 0), BAD);
        due("28 words(-1, 1)", x.words(-1, 1), BAD);
        due("28 words(0, 2)", x.words(0, 2), BAD);
        due("28 words(0, -1)", x.words(0, -1), BAD);
        ArrowTurner round = Check.net("3;01;12;20");
        due("28 a ROUND, the least", round.words(4, 0), NOT);
        due("28 a ROUND, how many", round.words(4, 1), 0);
        due("28 one", round.words(6, 0), 312);
        due("28 one", round.words(6, 1), 1);
        due("28 one that is not by numbers", Check.net("4;31;12;20;01").words(9, 0), 4213);
        due("28 a ROUND behind a NODE", Check.net("4;31;12;20;01").words(5, 0), NOT);
        due("28 a ROUND behind a NODE", Check.net("4;31;12;20;01").words(5, 1), 0);
        due("28 without edges", Check.net("7").words(0, 0), 1234567);
        due("28 without edges", Check.net("7").words(0, 1), 5040);
        due("28 of 1", Check.net("1").words(0, 0), 1);
        due("28 of 1", Check.net("1").words(0, 1), 1);
    }

    private static void turn() {
        ArrowTurner x = Check.net("7");
        due("29 turn(1234567)", x.turn(1234567), 2345671);
        due("29 turn(7654321)", x.turn(7654321), 6543217);
        due("29 turn(123)", x.turn(123), BAD);
        due("29 of 1", Check.net("1").turn(1), 1);
        due("29 of 2", Check.net("2").turn(21), 12);
        int word = 3142;
        ArrowTurner four = new ArrowTurner();
        for (int k = 0; k < 4; k++) {
            word = four.turn(word);
        }
        due("29 four times", word, 3142);
    }

    private static void conjugate() {
        ArrowTurner x = Check.net("3;01;12;20");
        int[] words = {123, 231, 312, 132, 213, 321};
        for (int i = 0; i < 6; i++) {
            for (int k = 0; k < 6; k++) {
                int want = i < 3 == k < 3 ? 1 : 0;
                due("30 conjugate(" + words[i] + ", " + words[k] + ")", x.conjugate(words[i], words[k]), want);
            }
        }
        due("30 a tree", Check.net("4;01;12").conjugate(1234, 4321), 1);
        due("30 without edges", Check.net("2").conjugate(12, 21), 1);
    }

    private static void off() {
        ArrowTurner x = Check.net("4;01");
        due("31 off(1234, 1234)", x.off(1234, 1234), 0);
        due("31 off(1234, 1243)", x.off(1234, 1243), 1);
        due("31 off(1243, 1234)", x.off(1243, 1234), 1);
        due("31 off(1234, 4312)", x.off(1234, 4312), 5);
        due("31 off(1234, 2134)", x.off(1234, 2134), NOT);
        due("31 off(1234, 4321)", x.off(1234, 4321), NOT);
        due("31 off(2134, 4321)", x.off(2134, 4321), 5);
        due("31 without edges", Check.net("7").off(1234567, 7654321), 21);
        due("31 of 1", Check.net("1").off(1, 1), 0);
    }
}
