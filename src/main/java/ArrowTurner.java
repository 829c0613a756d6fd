/**
 * A turner of arrows on a net, as ../shared/DOC.md promises it. Sets of NODES and of EDGES, and
 * ARROWINGS, are bits of an int; all rows are made once, with the object, and used again.
 */
public final class ArrowTurner {
    public static final int BAD = -1, NOT = -2, FULL = -3, STATE = -5, WIDE = -6;
    public static final long NO = Long.MIN_VALUE;

    private static final int NOTHING = -11, OTHER_KIND = -12, NO_PLACE = -13, BELOW_ZERO = -14;
    private static final int FAULTY = -1000;
    private static final int FIRST_NODES = 4, MOST_NODES = 7, MOST_EDGES = 10;
    private static final int MOST_ARROWINGS = 1 << MOST_EDGES, NODE_SETS = 1 << MOST_NODES;
    private static final int MOST_DEEDS = 24, MOST_FIRERS = 4, MOST_FIRED = 40;
    private static final int MOST_BYTES = 40, HOLDERS = 6, MOST_CELLS = 20;
    private static final int MOST_TUTTE = 9, MOST_WAYS = 12, MOST_V = 6, MOST_KIND = 5;
    private static final int MOST_TOLD = 2147483647;
    private static final int OF_NOTHING = 0, OF_ARROWING = 1, OF_WORD = 2, OF_ROW = 3;
    private static final int RUN_NODES = 10, RUN_COUNTS = 60;

    private final Net net = new Net();
    private final Net draft = new Net();
    private final Deeds deeds = new Deeds();
    private final Firers firers = new Firers();
    private final Rings rings = new Rings();
    private final Classes classes = new Classes();
    private final Ranks ranks = new Ranks();
    private final Walks walks = new Walks();
    private final Words words = new Words();
    private final Run run = new Run();
    private final Tape tape = new Tape();
    private final Holder[] holders = new Holder[HOLDERS];
    private final Net keptNet = new Net();
    private final Deeds keptDeeds = new Deeds();
    private final Firers keptFirers = new Firers();
    private boolean kept;

    public ArrowTurner() {
        for (int h = 0; h < holders.length; h++) {
            holders[h] = new Holder();
        }
    }

    // ---- the net

    public int nodes(int n) {
        if (n < 1 || n > MOST_NODES) {
            return BAD;
        }
        int was = net.nodes;
        net.clear(n);
        renew();
        return was;
    }

    public int edge(int from, int to) {
        if (!net.hasNode(from) || !net.hasNode(to) || from == to) {
            return BAD;
        }
        if (net.between(from, to) >= 0) {
            return STATE;
        }
        if (net.edges >= MOST_EDGES) {
            return FULL;
        }
        net.join(from, to);
        renew();
        return net.edges - 1;
    }

    public int cut(int edge) {
        if (!net.hasEdge(edge)) {
            return BAD;
        }
        net.remove(edge);
        renew();
        return net.edges;
    }

    public int of(int edge, int what) {
        if (!net.hasEdge(edge)) {
            return BAD;
        }
        switch (what) {
            case 0:
                return at(net.low, edge);
            case 1:
                return at(net.high, edge);
            case 2:
                return rings.chordOf(edge) >= 0 ? 1 : 0;
            case 3:
                return net.arrows >> edge & 1;
            default:
                return BAD;
        }
    }

    public int arrows() {
        return net.arrows;
    }

    public int set(int arrowing) {
        if (!net.hasArrowing(arrowing)) {
            return BAD;
        }
        int were = net.arrows;
        net.arrows = arrowing;
        deeds.count = 0;
        return were;
    }

    public int ends(int arrowing, int what) {
        if (!net.hasArrowing(arrowing) || what < 0 || what > 1) {
            return BAD;
        }
        return what == 0 ? net.sources(arrowing) : net.sinks(arrowing);
    }

    public int free(int arrowing) {
        if (!net.hasArrowing(arrowing)) {
            return BAD;
        }
        return net.isFree(arrowing) ? 1 : 0;
    }

    // ---- deeds

    public int fire(int node) {
        if (!net.hasNode(node)) {
            return BAD;
        }
        return deed(node, 0, net.sources(net.arrows));
    }

    public int drown(int node) {
        if (!net.hasNode(node)) {
            return BAD;
        }
        return deed(node, 1, net.sinks(net.arrows));
    }

    public int back() {
        if (deeds.count == 0) {
            return STATE;
        }
        net.arrows = net.turned(net.arrows, deeds.takeNewest());
        return net.arrows;
    }

    public int thin() {
        return deeds.thinOut();
    }

    public int log(int k, int what) {
        if (what < 0 || what > 1 || k < 0) {
            return BAD;
        }
        if (k >= deeds.count) {
            return NOT;
        }
        return what == 0 ? at(deeds.node, k) : at(deeds.drowned, k);
    }

    // ---- flows, classes

    public long flow(int arrowing, int edge) {
        int chord = rings.chordOf(edge);
        if (!net.hasArrowing(arrowing) || chord < 0) {
            return NO;
        }
        return rings.round(chord, arrowing);
    }

    public int alike(int one, int other) {
        if (!net.hasArrowing(one) || !net.hasArrowing(other)) {
            return BAD;
        }
        return areAlike(one, other) ? 1 : 0;
    }

    public int many(int what) {
        if (what < 0 || what > 1) {
            return BAD;
        }
        classes.find(net, rings);
        return what == 0 ? classes.freeOnes : classes.count;
    }

    public int ofClass(int k, int what) {
        if (what < 0 || what > 1 || k < 0) {
            return BAD;
        }
        classes.find(net, rings);
        if (k >= classes.count) {
            return NOT;
        }
        int found = at(classes.byOrder, k);
        return what == 0 ? at(classes.size, found) : at(classes.least, found);
    }

    public int place(int arrowing) {
        if (!net.hasArrowing(arrowing)) {
            return BAD;
        }
        classes.find(net, rings);
        int found = at(classes.home, arrowing);
        return found < 0 ? NOT : at(classes.rank, found);
    }

    public int rooted(int node) {
        if (!net.hasNode(node)) {
            return BAD;
        }
        classes.find(net, rings);
        return classes.rootedAt(net, node);
    }

    public int tutte(int x, int y) {
        if (x < 0 || x > MOST_TUTTE || y < 0 || y > MOST_TUTTE) {
            return BAD;
        }
        ranks.find(net);
        long value = ranks.value(x, y);
        return value > MOST_TOLD ? WIDE : (int) value;
    }

    // ---- firings

    public int distance(int from, int to) {
        if (!net.hasArrowing(from) || !net.hasArrowing(to)) {
            return BAD;
        }
        walks.searchBack(net, to);
        int firings = at(walks.firings, from);
        return firings < 0 ? NOT : firings;
    }

    public int step(int from, int to) {
        if (!net.hasArrowing(from) || !net.hasArrowing(to)) {
            return BAD;
        }
        walks.searchBack(net, to);
        int firings = at(walks.firings, from);
        if (firings <= 0) {
            return NOT;
        }
        int node = walks.nodeTowards(net, from, firings - 1);
        return node < 0 ? NOT : node;
    }

    public int far(int arrowing, int what) {
        if (!net.hasArrowing(arrowing) || what < 0 || what > 1) {
            return BAD;
        }
        walks.searchOn(net, arrowing);
        int greatest = walks.greatest();
        return what == 0 ? greatest : walks.leastAt(greatest);
    }

    public long ways(int arrowing, int n) {
        if (!net.hasArrowing(arrowing) || n < 0 || n > MOST_WAYS) {
            return NO;
        }
        walks.searchOn(net, arrowing);
        return walks.rowsOf(net, arrowing, n);
    }

    public int trip(int arrowing) {
        if (!net.hasArrowing(arrowing)) {
            return BAD;
        }
        walks.searchBack(net, arrowing);
        int fewest = walks.fewestBehindOne(net, arrowing);
        return fewest < 0 ? NOT : fewest + 1;
    }

    // ---- words

    public int byWord(int word) {
        if (!words.takeOne(net.nodes, word)) {
            return BAD;
        }
        return words.arrowsOf(net, words.one);
    }

    public int words(int arrowing, int what) {
        if (!net.hasArrowing(arrowing) || what < 0 || what > 1) {
            return BAD;
        }
        words.order(net, arrowing);
        if (what == 1) {
            return words.howMany(net.nodes);
        }
        int least = words.leastWord(net.nodes);
        return least < 0 ? NOT : least;
    }

    public int turn(int word) {
        if (!words.takeOne(net.nodes, word)) {
            return BAD;
        }
        int unit = 1;
        for (int i = 1; i < MOST_NODES && i < net.nodes; i++) {
            unit *= 10;
        }
        int first = unit > 0 ? word / unit : 0;
        return (word - first * unit) * 10 + first;
    }

    public int conjugate(int one, int other) {
        if (!words.takeOne(net.nodes, one) || !words.takeOther(net.nodes, other)) {
            return BAD;
        }
        int arrows = words.arrowsOf(net, words.one);
        return areAlike(arrows, words.arrowsOf(net, words.other)) ? 1 : 0;
    }

    public int off(int one, int other) {
        if (!words.takeOne(net.nodes, one) || !words.takeOther(net.nodes, other)) {
            return BAD;
        }
        if (words.arrowsOf(net, words.one) != words.arrowsOf(net, words.other)) {
            return NOT;
        }
        return words.pairsOff(net.nodes);
    }

    // ---- firers

    public int firer(int kind, int v) {
        if (kind < 0 || kind > MOST_KIND || v < 0 || v > MOST_V) {
            return BAD;
        }
        if (firers.count >= MOST_FIRERS) {
            return FULL;
        }
        return firers.add(kind, v);
    }

    public int runs(int firer, int n, int what) {
        if (firer < 0 || firer >= firers.count || n < 0 || n > MOST_FIRED || !isOfRun(what)) {
            return BAD;
        }
        run.go(net, at(firers.kind, firer), at(firers.v, firer), n);
        if (what == 0) {
            return run.arrowing;
        }
        if (what == 1) {
            return run.count;
        }
        if (what == 2) {
            return run.same > 0 ? run.same : NOT;
        }
        if (what >= RUN_COUNTS) {
            return at(run.often, what - RUN_COUNTS);
        }
        int k = what - RUN_NODES;
        return k < run.count ? at(run.fired, k) : NOT;
    }

    // ---- texts

    public int feed(int v, int n) {
        if (n < 1 || n > 4) {
            return BAD;
        }
        if (tape.count + n > MOST_BYTES) {
            return FULL;
        }
        for (int k = n - 1; k >= 0; k--) {
            tape.add(v >> 8 * k & 255);
        }
        return tape.count;
    }

    public int wipe() {
        int had = tape.count;
        tape.count = 0;
        return had;
    }

    public int read() {
        int fault = tape.drawInto(draft);
        tape.count = 0;
        if (fault >= 0) {
            return FAULTY - fault;
        }
        net.copy(draft);
        renew();
        return net.edges;
    }

    public int spell(int i) {
        if (i < 0) {
            return BAD;
        }
        if (i > 3 * net.edges) {
            return NOT;
        }
        if (i == 0) {
            return '0' + net.nodes;
        }
        int edge = (i - 1) / 3;
        switch ((i - 1) % 3) {
            case 0:
                return ';';
            case 1:
                return '0' + net.tail(net.arrows, edge);
            default:
                return '0' + net.head(net.arrows, edge);
        }
    }

    // ---- holders, the image

    public int hold(int h, int what, int v) {
        Holder holder = holderAt(h);
        if (holder == null || what < 0 || what > 1) {
            return BAD;
        }
        if (what == 0) {
            if (!net.hasArrowing(v)) {
                return BAD;
            }
            holder.take(OF_ARROWING, v, net.edges);
            return v;
        }
        if (!words.takeOne(net.nodes, v)) {
            return BAD;
        }
        holder.take(OF_WORD, v, net.nodes);
        return v;
    }

    public int drop(int h) {
        Holder holder = holderAt(h);
        if (holder == null) {
            return BAD;
        }
        int was = holder.holds;
        holder.take(OF_NOTHING, 0, 0);
        return was;
    }

    public int taken(int h, int kind) {
        Holder holder = holderAt(h);
        if (holder == null || kind < 0 || kind > 2) {
            return BAD;
        }
        if (holder.holds == OF_NOTHING) {
            return NOTHING;
        }
        if (holder.holds == OF_ROW || kind != 0 && kind != holder.holds) {
            return OTHER_KIND;
        }
        return kind == 0 ? holder.number : holder.size;
    }

    public int row(int h, int n) {
        Holder holder = holderAt(h);
        if (holder == null || n > MOST_CELLS) {
            return BAD;
        }
        if (n < 0) {
            return BELOW_ZERO;
        }
        holder.takeRow(n);
        return n;
    }

    public int put(int h, int i, int v) {
        Holder holder = holderAt(h);
        int refused = noRow(holder);
        if (holder == null || refused != 0) {
            return refused;
        }
        if (i < 0 || i >= holder.size) {
            return NO_PLACE;
        }
        lay(holder.cells, i, v);
        return 1;
    }

    public long get(int h, int i) {
        Holder holder = holderAt(h);
        if (holder == null || noRow(holder) != 0 || i < 0 || i >= holder.size) {
            return NO;
        }
        return at(holder.cells, i);
    }

    public int judge(int h, int arrowing) {
        Holder holder = holderAt(h);
        if (holder == null || !net.hasArrowing(arrowing)) {
            return BAD;
        }
        int refused = noRow(holder);
        if (refused != 0) {
            return refused;
        }
        int shared = Math.min(holder.size, rings.chords);
        for (int k = 0; k < shared; k++) {
            if (at(holder.cells, k) != rings.round(k, arrowing)) {
                return k;
            }
        }
        return holder.size == rings.chords ? NOT : shared;
    }

    public int image() {
        keptNet.copy(net);
        keptDeeds.copy(deeds);
        keptFirers.copy(firers);
        kept = true;
        return net.edges;
    }

    public int undo() {
        if (!kept) {
            return STATE;
        }
        net.copy(keptNet);
        renew();
        deeds.copy(keptDeeds);
        firers.copy(keptFirers);
        return net.edges;
    }

    public int count(int what) {
        switch (what) {
            case 0:
                return net.nodes;
            case 1:
                return net.edges;
            case 2:
                return deeds.count;
            case 3:
                return firers.count;
            case 4:
                return tape.count;
            case 5:
                return rings.chords;
            default:
                return BAD;
        }
    }

    // ---- what the calls share

    // Looks at the index first, so that no reading of a row can fail.
    private static int at(int[] cells, int i) {
        return i >= 0 && i < cells.length ? cells[i] : 0;
    }

    // Looks at the index first, so that no writing into a row can fail.
    private static void lay(int[] cells, int i, int v) {
        if (i >= 0 && i < cells.length) {
            cells[i] = v;
        }
    }

    private static boolean isIn(int bits, int i) {
        return (bits >> i & 1) != 0;
    }

    // What is drawn from THE NET, and THE LOG, are of no use any more behind a change of EDGES.
    private void renew() {
        rings.draw(net);
        classes.found = false;
        ranks.found = false;
        deeds.count = 0;
    }

    private int deed(int node, int drowned, int allowed) {
        if (!isIn(allowed, node)) {
            return STATE;
        }
        net.arrows = net.turned(net.arrows, node);
        deeds.add(node, drowned);
        return net.arrows;
    }

    private boolean areAlike(int one, int other) {
        return rings.key(one) == rings.key(other) && net.isFree(one) && net.isFree(other);
    }

    private boolean isOfRun(int what) {
        if (what >= RUN_COUNTS) {
            return net.hasNode(what - RUN_COUNTS);
        }
        return what >= 0 && what <= 2 || what >= RUN_NODES && what < RUN_NODES + MOST_FIRED;
    }

    private Holder holderAt(int h) {
        return h >= 0 && h < holders.length ? holders[h] : null;
    }

    // Why there is no ROW in a HOLDER; 0, if there is one.
    private static int noRow(Holder holder) {
        if (holder == null) {
            return BAD;
        }
        if (holder.holds == OF_NOTHING) {
            return NOTHING;
        }
        return holder.holds == OF_ROW ? 0 : OTHER_KIND;
    }

    /** NODES, EDGES and THE ARROWS. */
    private static final class Net {
        int nodes = FIRST_NODES;
        int edges;
        int arrows;
        final int[] low = new int[MOST_EDGES];
        final int[] high = new int[MOST_EDGES];
        // The EDGES of each NODE, and what they are in an ARROWING if all of them lead away from it:
        // with these one comparison tells whether a NODE is a SOURCE.
        final int[] touch = new int[MOST_NODES];
        final int[] away = new int[MOST_NODES];

        void clear(int n) {
            nodes = n;
            edges = 0;
            arrows = 0;
            mark();
        }

        void copy(Net other) {
            nodes = other.nodes;
            edges = other.edges;
            arrows = other.arrows;
            for (int e = 0; e < MOST_EDGES; e++) {
                lay(low, e, at(other.low, e));
                lay(high, e, at(other.high, e));
            }
            mark();
        }

        void join(int from, int to) {
            if (edges < MOST_EDGES) {
                lay(low, edges, Math.min(from, to));
                lay(high, edges, Math.max(from, to));
                arrows |= (from < to ? 0 : 1) << edges;
                edges++;
                mark();
            }
        }

        void remove(int edge) {
            int below = (1 << edge) - 1;
            arrows = arrows & below | arrows >> 1 & ~below;
            edges--;
            for (int e = edge; e < edges; e++) {
                lay(low, e, at(low, e + 1));
                lay(high, e, at(high, e + 1));
            }
            mark();
        }

        private void mark() {
            for (int v = 0; v < MOST_NODES; v++) {
                int touching = 0;
                int leading = 0;
                for (int e = 0; e < edges; e++) {
                    boolean isHigh = at(high, e) == v;
                    touching |= (isHigh || at(low, e) == v ? 1 : 0) << e;
                    leading |= (isHigh ? 1 : 0) << e;
                }
                lay(touch, v, touching);
                lay(away, v, leading);
            }
        }

        boolean hasNode(int v) {
            return v >= 0 && v < nodes;
        }

        boolean hasEdge(int e) {
            return e >= 0 && e < edges;
        }

        boolean hasArrowing(int a) {
            return a >= 0 && a < 1 << edges;
        }

        int between(int one, int other) {
            for (int e = 0; e < edges; e++) {
                if (at(low, e) == Math.min(one, other) && at(high, e) == Math.max(one, other)) {
                    return e;
                }
            }
            return -1;
        }

        int tail(int arrowing, int e) {
            return isIn(arrowing, e) ? at(high, e) : at(low, e);
        }

        int head(int arrowing, int e) {
            return isIn(arrowing, e) ? at(low, e) : at(high, e);
        }

        int turned(int arrowing, int node) {
            return arrowing ^ at(touch, node);
        }

        int sources(int arrowing) {
            int found = 0;
            for (int v = 0; v < touch.length && v < away.length; v++) {
                if (touch[v] != 0 && (arrowing & touch[v]) == away[v]) {
                    found |= 1 << v;
                }
            }
            return found;
        }

        // Where all EDGES are turned, SINKS are SOURCES.
        int sinks(int arrowing) {
            return sources(~arrowing);
        }

        // A NODE to which no EDGE leads is on no ROUND, nor are its EDGES: they are taken away as
        // long as there is such a NODE, and what is left then holds a ROUND.
        boolean isFree(int arrowing) {
            int left = (1 << edges) - 1;
            for (int again = 0; again < MOST_NODES && left != 0; again++) {
                int before = left;
                for (int v = 0; v < touch.length && v < away.length; v++) {
                    if (((arrowing ^ away[v]) & touch[v] & left) == 0) {
                        left &= ~touch[v];
                    }
                }
                if (left == before) {
                    return false;
                }
            }
            return left == 0;
        }
    }

    /** TREE, CHORDS, and the RING of each CHORD. */
    private static final class Rings {
        int chords;
        private final int[] chord = new int[MOST_EDGES];
        // The EDGES of a RING, and what they are in an ARROWING if all of them lead its way.
        private final int[] ring = new int[MOST_EDGES];
        private final int[] way = new int[MOST_EDGES];
        // Of each NODE the part of TREE it is in, and the EDGES of TREE from the NODE to one that all
        // NODES of this part share: what two NODES have otherwise joins the two.
        private final int[] part = new int[MOST_NODES];
        private final int[] path = new int[MOST_NODES];

        void draw(Net net) {
            chords = 0;
            for (int v = 0; v < MOST_NODES; v++) {
                lay(part, v, v);
                lay(path, v, 0);
            }
            for (int e = 0; e < net.edges; e++) {
                int low = at(net.low, e);
                int high = at(net.high, e);
                if (at(part, low) == at(part, high)) {
                    addChord(net, e, at(path, low) ^ at(path, high));
                } else {
                    growTree(low, high, 1 << e);
                }
            }
        }

        private void growTree(int low, int high, int edgeBit) {
            int gone = at(part, high);
            int more = at(path, low) ^ at(path, high) ^ edgeBit;
            for (int v = 0; v < MOST_NODES; v++) {
                if (at(part, v) == gone) {
                    lay(part, v, at(part, low));
                    lay(path, v, at(path, v) ^ more);
                }
            }
        }

        private void addChord(Net net, int edge, int byTree) {
            lay(chord, chords, edge);
            lay(ring, chords, byTree | 1 << edge);
            lay(way, chords, wayBack(net, at(net.high, edge), byTree));
            chords++;
        }

        // The bits of the EDGES of a path if they lead from a NODE at its end to its other end.
        private static int wayBack(Net net, int start, int byTree) {
            int here = start;
            int left = byTree;
            int bits = 0;
            for (int steps = 0; steps < MOST_EDGES && left != 0; steps++) {
                int next = left & at(net.touch, here);
                int edge = Integer.bitCount((next & -next) - 1);
                bits |= next & at(net.away, here);
                left &= ~next;
                here = at(net.low, edge) + at(net.high, edge) - here;
            }
            return bits;
        }

        int chordOf(int edge) {
            for (int k = 0; k < chords; k++) {
                if (at(chord, k) == edge) {
                    return k;
                }
            }
            return -1;
        }

        private int against(int k, int arrowing) {
            return Integer.bitCount((arrowing ^ at(way, k)) & at(ring, k));
        }

        int round(int k, int arrowing) {
            return Integer.bitCount(at(ring, k)) - 2 * against(k, arrowing);
        }

        // All FLOWS in one number: no RING has more than 7 EDGES, so that 4 bits hold one.
        long key(int arrowing) {
            long all = 0;
            for (int k = 0; k < chords; k++) {
                all = all << 4 | against(k, arrowing);
            }
            return all;
        }
    }

    /** The CLASSES: numbered as they are found, by their least ARROWINGS, and put in ORDER. */
    private static final class Classes {
        boolean found;
        int freeOnes;
        int count;
        final int[] home = new int[MOST_ARROWINGS];
        final int[] size = new int[MOST_ARROWINGS];
        final int[] least = new int[MOST_ARROWINGS];
        final int[] rank = new int[MOST_ARROWINGS];
        final int[] byOrder = new int[MOST_ARROWINGS];
        private final long[] key = new long[MOST_ARROWINGS];

        void find(Net net, Rings rings) {
            if (found) {
                return;
            }
            freeOnes = 0;
            count = 0;
            for (int a = 0; a < 1 << net.edges; a++) {
                if (net.isFree(a)) {
                    freeOnes++;
                    lay(home, a, join(a, rings.key(a)));
                } else {
                    lay(home, a, -1);
                }
            }
            putInOrder();
            found = true;
        }

        private int join(int arrowing, long flows) {
            int k = 0;
            while (k < count && k < key.length && key[k] != flows) {
                k++;
            }
            if (k == count && k < key.length) {
                key[k] = flows;
                lay(size, k, 0);
                lay(least, k, arrowing);
                count++;
            }
            lay(size, k, at(size, k) + 1);
            return k;
        }

        // Of like ones that with the lesser HEAD was found first.
        private void putInOrder() {
            for (int k = 0; k < count; k++) {
                int ahead = 0;
                for (int i = 0; i < count; i++) {
                    if (at(size, i) > at(size, k) || at(size, i) == at(size, k) && i < k) {
                        ahead++;
                    }
                }
                lay(rank, k, ahead);
                lay(byOrder, ahead, k);
            }
        }

        int rootedAt(Net net, int node) {
            int ones = 0;
            for (int a = 0; a < 1 << net.edges; a++) {
                if (at(home, a) >= 0 && net.sources(a) == 1 << node) {
                    ones++;
                }
            }
            return ones;
        }
    }

    /**
     * TUTTE as a sum over all sets of EDGES: of each (x - 1) as often as its EDGES join less than all
     * EDGES do, and (y - 1) as often as it has EDGES that join nothing, multiplied. It is what taking
     * away and CONTRACTING gives, and the sets need to be looked at but once for all x and y.
     */
    private static final class Ranks {
        private static final int ROW = MOST_EDGES + 1, PART_BITS = 3, PART = 7;
        private static final int RANK_SHIFT = PART_BITS * MOST_NODES;
        boolean found;
        // Of each set of EDGES: for each NODE which part it is in (3 bits), above these the rank.
        private final int[] parts = new int[MOST_ARROWINGS];
        private final int[] tally = new int[MOST_NODES * ROW];

        void find(Net net) {
            if (found) {
                return;
            }
            for (int v = 0; v < MOST_NODES; v++) {
                lay(parts, 0, v == 0 ? 0 : at(parts, 0) | v << PART_BITS * v);
            }
            for (int e = 0; e < net.edges; e++) {
                for (int set = 1 << e; set < 2 << e; set++) {
                    int less = at(parts, set ^ 1 << e);
                    lay(parts, set, joined(less, at(net.low, e), at(net.high, e)));
                }
            }
            tallyAll(1 << net.edges);
            found = true;
        }

        private static int partOf(int packed, int v) {
            return packed >> PART_BITS * v & PART;
        }

        private static int joined(int packed, int low, int high) {
            int stays = partOf(packed, low);
            int goes = partOf(packed, high);
            if (stays == goes) {
                return packed;
            }
            int after = packed + (1 << RANK_SHIFT);
            for (int v = 0; v < MOST_NODES; v++) {
                if (partOf(packed, v) == goes) {
                    after ^= (stays ^ goes) << PART_BITS * v;
                }
            }
            return after;
        }

        private void tallyAll(int sets) {
            for (int i = 0; i < tally.length; i++) {
                tally[i] = 0;
            }
            int most = at(parts, sets - 1) >> RANK_SHIFT;
            for (int set = 0; set < sets; set++) {
                int rank = at(parts, set) >> RANK_SHIFT;
                int cell = (most - rank) * ROW + Integer.bitCount(set) - rank;
                lay(tally, cell, at(tally, cell) + 1);
            }
        }

        long value(int x, int y) {
            long sum = 0;
            long byX = 1;
            for (int i = 0; i < MOST_NODES; i++) {
                long byBoth = byX;
                for (int k = 0; k < ROW; k++) {
                    sum += byBoth * at(tally, i * ROW + k);
                    byBoth *= y - 1;
                }
                byX *= x - 1;
            }
            return sum;
        }
    }

    /** A search from one ARROWING, by FIRINGS or back against them, the nearest first. */
    private static final class Walks {
        // -1: not come to in the search.
        final int[] firings = new int[MOST_ARROWINGS];
        private final int[] queue = new int[MOST_ARROWINGS];
        private int seen;
        private final long[] rows = new long[MOST_ARROWINGS];
        private final long[] longer = new long[MOST_ARROWINGS];

        Walks() {
            for (int a = 0; a < firings.length; a++) {
                firings[a] = -1;
            }
        }

        void searchOn(Net net, int start) {
            search(net, start, false);
        }

        void searchBack(Net net, int start) {
            search(net, start, true);
        }

        private void search(Net net, int start, boolean back) {
            for (int i = 0; i < seen; i++) {
                lay(firings, at(queue, i), -1);
            }
            seen = 0;
            see(start, 0);
            for (int i = 0; i < seen && i < queue.length; i++) {
                int here = at(queue, i);
                int ends = back ? net.sinks(here) : net.sources(here);
                for (int v = 0; v < net.nodes; v++) {
                    if (isIn(ends, v)) {
                        see(net.turned(here, v), at(firings, here) + 1);
                    }
                }
            }
        }

        private void see(int arrowing, int so) {
            if (at(firings, arrowing) < 0 && seen < queue.length) {
                lay(firings, arrowing, so);
                queue[seen] = arrowing;
                seen++;
            }
        }

        int greatest() {
            return at(firings, at(queue, seen - 1));
        }

        int leastAt(int so) {
            int least = MOST_ARROWINGS;
            for (int i = 0; i < seen; i++) {
                if (at(firings, at(queue, i)) == so) {
                    least = Math.min(least, at(queue, i));
                }
            }
            return least;
        }

        // Behind a search back: the least SOURCE behind whose FIRING so many are left; -1: none.
        int nodeTowards(Net net, int from, int left) {
            int sources = net.sources(from);
            for (int v = 0; v < net.nodes; v++) {
                if (isIn(sources, v) && at(firings, net.turned(from, v)) == left) {
                    return v;
                }
            }
            return -1;
        }

        // Behind a search back: the fewest FIRINGS left behind that of any SOURCE; -1: it never comes.
        int fewestBehindOne(Net net, int from) {
            int sources = net.sources(from);
            int fewest = -1;
            for (int v = 0; v < net.nodes; v++) {
                int left = isIn(sources, v) ? at(firings, net.turned(from, v)) : -1;
                if (left >= 0 && (fewest < 0 || left < fewest)) {
                    fewest = left;
                }
            }
            return fewest;
        }

        // Behind a search on: all that FIRING leads to was seen, so rows of one more come from these.
        long rowsOf(Net net, int start, int n) {
            for (int i = 0; i < seen; i++) {
                layLong(rows, at(queue, i), 1);
            }
            for (int k = 0; k < n; k++) {
                for (int i = 0; i < seen; i++) {
                    int here = at(queue, i);
                    layLong(longer, here, rowsBehindOne(net, here));
                }
                for (int i = 0; i < seen; i++) {
                    layLong(rows, at(queue, i), longAt(longer, at(queue, i)));
                }
            }
            return longAt(rows, start);
        }

        private long rowsBehindOne(Net net, int from) {
            int sources = net.sources(from);
            long sum = 0;
            for (int v = 0; v < net.nodes; v++) {
                if (isIn(sources, v)) {
                    sum += longAt(rows, net.turned(from, v));
                }
            }
            return sum;
        }

        private static long longAt(long[] cells, int i) {
            return i >= 0 && i < cells.length ? cells[i] : 0;
        }

        private static void layLong(long[] cells, int i, long v) {
            if (i >= 0 && i < cells.length) {
                cells[i] = v;
            }
        }
    }

    /** Two WORDS, each as the places of its NODES, and the WORDS of one ARROWING. */
    private static final class Words {
        final int[] one = new int[MOST_NODES];
        final int[] other = new int[MOST_NODES];
        // Of each NODE those that must be ahead of it.
        private final int[] ahead = new int[MOST_NODES];
        // Of each set of NODES how many rows of them there are that can begin a WORD.
        private final int[] rows = new int[NODE_SETS];

        boolean takeOne(int nodes, int word) {
            return take(nodes, word, one);
        }

        boolean takeOther(int nodes, int word) {
            return take(nodes, word, other);
        }

        private static boolean take(int nodes, int word, int[] places) {
            int left = word;
            int seen = 0;
            for (int i = nodes - 1; i >= 0; i--) {
                int node = left % 10 - 1;
                if (node < 0 || node >= nodes || isIn(seen, node)) {
                    return false;
                }
                seen |= 1 << node;
                lay(places, node, i);
                left /= 10;
            }
            return left == 0;
        }

        int arrowsOf(Net net, int[] places) {
            int arrowing = 0;
            for (int e = 0; e < net.edges; e++) {
                if (at(places, at(net.low, e)) > at(places, at(net.high, e))) {
                    arrowing |= 1 << e;
                }
            }
            return arrowing;
        }

        int pairsOff(int nodes) {
            int pairs = 0;
            for (int v = 0; v < nodes; v++) {
                for (int w = v + 1; w < nodes; w++) {
                    if (at(one, v) < at(one, w) != at(other, v) < at(other, w)) {
                        pairs++;
                    }
                }
            }
            return pairs;
        }

        void order(Net net, int arrowing) {
            for (int v = 0; v < ahead.length; v++) {
                ahead[v] = 0;
            }
            for (int e = 0; e < net.edges; e++) {
                int head = net.head(arrowing, e);
                lay(ahead, head, at(ahead, head) | 1 << net.tail(arrowing, e));
            }
        }

        private boolean mayCome(int node, int gone) {
            return !isIn(gone, node) && (at(ahead, node) & ~gone) == 0;
        }

        int howMany(int nodes) {
            int sets = 1 << nodes;
            for (int set = 0; set < sets; set++) {
                lay(rows, set, set == 0 ? 1 : 0);
            }
            for (int set = 0; set < sets; set++) {
                for (int v = 0; v < nodes; v++) {
                    if (mayCome(v, set)) {
                        int more = set | 1 << v;
                        lay(rows, more, at(rows, more) + at(rows, set));
                    }
                }
            }
            return at(rows, sets - 1);
        }

        int leastWord(int nodes) {
            int word = 0;
            int gone = 0;
            for (int i = 0; i < nodes; i++) {
                int next = 0;
                while (next < nodes && !mayCome(next, gone)) {
                    next++;
                }
                if (next >= nodes) {
                    return -1;
                }
                gone |= 1 << next;
                word = word * 10 + next + 1;
            }
            return word;
        }
    }

    /** THE LOG. */
    private static final class Deeds {
        int count;
        final int[] node = new int[MOST_DEEDS];
        final int[] drowned = new int[MOST_DEEDS];

        void copy(Deeds other) {
            count = 0;
            for (int k = 0; k < other.count; k++) {
                add(at(other.node, k), at(other.drowned, k));
            }
        }

        void add(int which, int how) {
            if (count == MOST_DEEDS) {
                for (int k = 1; k < MOST_DEEDS; k++) {
                    lay(node, k - 1, at(node, k));
                    lay(drowned, k - 1, at(drowned, k));
                }
                count--;
            }
            lay(node, count, which);
            lay(drowned, count, how);
            count++;
        }

        int takeNewest() {
            count--;
            return at(node, count);
        }

        // Each DEED meets the newest of those that stay: so the first two that fit go first.
        int thinOut() {
            int had = count;
            count = 0;
            for (int k = 0; k < had; k++) {
                int which = at(node, k);
                int how = at(drowned, k);
                int last = count - 1;
                if (count > 0 && at(node, last) == which && at(drowned, last) != how) {
                    count--;
                } else {
                    add(which, how);
                }
            }
            return had - count;
        }
    }

    /** The FIRERS. */
    private static final class Firers {
        int count;
        final int[] kind = new int[MOST_FIRERS];
        final int[] v = new int[MOST_FIRERS];

        void copy(Firers other) {
            count = 0;
            for (int k = 0; k < other.count; k++) {
                add(at(other.kind, k), at(other.v, k));
            }
        }

        int add(int which, int from) {
            lay(kind, count, which);
            lay(v, count, from);
            count++;
            return count - 1;
        }
    }

    /** A RUN of a FIRER. */
    private static final class Run {
        private static final int LAST = 1, FROM = 2, RARE = 3, WIDEST = 4, OFTEN = 5;
        int arrowing;
        int count;
        int same;
        final int[] fired = new int[MOST_FIRED];
        final int[] often = new int[MOST_NODES];

        void go(Net net, int kind, int v, int n) {
            arrowing = net.arrows;
            count = 0;
            same = 0;
            for (int i = 0; i < often.length; i++) {
                often[i] = 0;
            }
            for (int i = 0; i < n; i++) {
                int sources = net.sources(arrowing);
                if (sources == 0) {
                    return;
                }
                fireThought(net, choose(net, kind, v, sources));
            }
        }

        private void fireThought(Net net, int node) {
            arrowing = net.turned(arrowing, node);
            lay(fired, count, node);
            lay(often, node, at(often, node) + 1);
            count++;
            if (same == 0 && arrowing == net.arrows) {
                same = count;
            }
        }

        private int choose(Net net, int kind, int v, int sources) {
            switch (kind) {
                case LAST:
                    return greatestOf(sources);
                case FROM:
                    return leastFrom(sources, v);
                case WIDEST:
                    return leastFrom(heaviest(net, kind, sources), v);
                case RARE:
                case OFTEN:
                    return greatestOf(heaviest(net, kind, sources));
                default:
                    return leastFrom(sources, 0);
            }
        }

        private static int greatestOf(int nodes) {
            int greatest = 0;
            for (int v = 0; v < MOST_NODES; v++) {
                if (isIn(nodes, v)) {
                    greatest = v;
                }
            }
            return greatest;
        }

        private static int leastFrom(int nodes, int v) {
            int above = nodes >> v << v;
            int looked = above != 0 ? above : nodes;
            int least = 0;
            while (least < MOST_NODES - 1 && !isIn(looked, least)) {
                least++;
            }
            return least;
        }

        private int heaviest(Net net, int kind, int nodes) {
            int found = 0;
            int most = -MOST_FIRED - 1;
            for (int v = 0; v < net.nodes; v++) {
                int weight = weight(net, kind, v);
                if (isIn(nodes, v) && weight >= most) {
                    found = weight > most ? 1 << v : found | 1 << v;
                    most = weight;
                }
            }
            return found;
        }

        private int weight(Net net, int kind, int v) {
            if (kind == WIDEST) {
                return Integer.bitCount(at(net.touch, v));
            }
            return kind == OFTEN ? at(often, v) : -at(often, v);
        }
    }

    /** THE TAPE. */
    private static final class Tape {
        int count;
        private final int[] bytes = new int[MOST_BYTES];

        void add(int b) {
            lay(bytes, count, b);
            count++;
        }

        // What a byte is as a digit; behind the end, what is none.
        private int digitAt(int i) {
            return i < count ? at(bytes, i) - '0' : -1;
        }

        // Draws the NET of which THE TAPE is the TEXT: -1, or the FAULT.
        int drawInto(Net net) {
            int nodes = digitAt(0);
            if (nodes < 1 || nodes > MOST_NODES) {
                return 0;
            }
            net.clear(nodes);
            for (int i = 1; i < count; i += 3) {
                if (at(bytes, i) != ';' || net.edges >= MOST_EDGES) {
                    return i;
                }
                int from = digitAt(i + 1);
                if (!net.hasNode(from)) {
                    return i + 1;
                }
                int to = digitAt(i + 2);
                if (!net.hasNode(to) || to == from || net.between(from, to) >= 0) {
                    return i + 2;
                }
                net.join(from, to);
            }
            return -1;
        }
    }

    /** What one HOLDER holds: the size is that of a ROW, else how many EDGES or NODES there were. */
    private static final class Holder {
        int holds;
        int number;
        int size;
        final int[] cells = new int[MOST_CELLS];

        void take(int what, int v, int had) {
            holds = what;
            number = v;
            size = had;
        }

        void takeRow(int n) {
            take(OF_ROW, 0, n);
            for (int i = 0; i < cells.length; i++) {
                cells[i] = 0;
            }
        }
    }
}
