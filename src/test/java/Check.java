/** Compares answers with those that are due, and ends a test with exit code 1 if one is otherwise. */
final class Check {
    private static final int MOST_MILLISECONDS = 300_000;

    private final String test;
    private volatile String sentence = "";
    private int right;
    private int wrong;

    Check(String test) {
        this.test = test;
        Thread watch = new Thread(this::watch);
        watch.setDaemon(true);
        watch.start();
    }

    /** A call that does not end must fail the test, not hold it up for ever. */
    private void watch() {
        try {
            Thread.sleep(MOST_MILLISECONDS);
        } catch (InterruptedException gone) {
            return;
        }
        System.out.println(test + ": " + sentence + "has not ended in time");
        Runtime.getRuntime().halt(1);
    }

    /** Tells which sentence of the document the answers behind this are due by. */
    void says(String words) {
        sentence = "[" + words + "] ";
    }

    void due(String call, long got, long want) {
        that(call + " answered " + got + ", due is " + want, got == want);
    }

    void that(String otherwise, boolean holds) {
        if (holds) {
            right++;
        } else {
            wrong++;
            System.out.println(test + ": " + sentence + otherwise);
        }
    }

    void same(String what, String got, String want) {
        that(what + " is " + got + ", due is " + want, got.equals(want));
    }

    int wrong() {
        return wrong;
    }

    void end() {
        System.out.println(test + ": " + right + " as due, " + wrong + " not");
        if (wrong > 0 || right == 0) {
            System.exit(1);
        }
    }

    /** Feeds a text to THE TAPE, byte by byte. */
    static void feed(ArrowTurner x, String text) {
        for (int i = 0; i < text.length(); i++) {
            x.feed(text.charAt(i), 1);
        }
    }

    /** A new object with the NET that a text tells. */
    static ArrowTurner net(String text) {
        ArrowTurner x = new ArrowTurner();
        feed(x, text);
        if (x.read() < 0) {
            throw new IllegalStateException("no text of a net: " + text);
        }
        return x;
    }

    /** THE NET as it is SPELLED. */
    static String spelled(ArrowTurner x) {
        StringBuilder text = new StringBuilder();
        int b = x.spell(0);
        for (int i = 1; b >= 0; i++) {
            text.append((char) b);
            b = x.spell(i);
        }
        return text.toString();
    }
}
