/** What an object is, as a text: all that can be asked of it, in some 300 calls at most (an
 * object is good for 512). */
final class States {
    private static final int HOLDERS = 6, RUN = 6;

    private States() {
    }

    /** N, EDGES, THE ARROWS, THE LOG, FIRERS: what THE IMAGE keeps. */
    static String kept(ArrowTurner x) {
        StringBuilder text = new StringBuilder("net ").append(Check.spelled(x));
        text.append(" edges ").append(x.count(1)).append(" arrows ").append(x.arrows()).append(" log");
        int node = x.log(0, 0);
        for (int k = 1; node >= 0; k++) {
            text.append(' ').append(x.log(k - 1, 1) == 1 ? "drowned" : "fired").append(node);
            node = x.log(k, 0);
        }
        for (int f = 0; f < x.count(3); f++) {
            text.append(" firer");
            for (int k = 0; k < RUN; k++) {
                text.append(' ').append(x.runs(f, RUN, 10 + k));
            }
        }
        return text.toString();
    }

    /** What THE IMAGE does not keep, so far as it can be asked without a change. */
    private static String held(ArrowTurner x) {
        StringBuilder text = new StringBuilder(" tape ").append(x.count(4));
        for (int h = 0; h < HOLDERS; h++) {
            text.append(" holder").append(h);
            for (int kind = 0; kind < 3; kind++) {
                text.append(' ').append(x.taken(h, kind));
            }
            long cell = x.get(h, 0);
            for (int i = 1; cell != Long.MIN_VALUE; i++) {
                text.append(" cell ").append(cell);
                cell = x.get(h, i);
            }
        }
        return text.toString();
    }

    /** All of it, and then what THE TAPE and THE IMAGE bring: behind this the object is another. */
    static String whole(ArrowTurner x) {
        StringBuilder text = new StringBuilder(kept(x)).append(held(x));
        text.append(" read ").append(x.read()).append(' ').append(Check.spelled(x));
        text.append(" undo ").append(x.undo()).append(' ').append(kept(x));
        return text.toString();
    }
}
