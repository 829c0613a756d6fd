import java.util.ArrayDeque;
import java.util.ArrayList;
import java.util.Comparator;
import java.util.HashMap;
import java.util.LinkedHashMap;
import java.util.List;
import java.util.Map;
import java.util.TreeMap;
import java.util.TreeSet;

/**
 * The document once more, as near to its words as can be: with collections, by trying all there is.
 * ArrowTurner's answers are compared with these. It shares no line and no way of working with it.
 */
final class Plain {
    static final int BAD = -1, NOT = -2, FULL = -3, STATE = -5, WIDE = -6;
    static final long NO = Long.MIN_VALUE;

    record Edge(int low, int high) { }

    record Deed(int node, boolean drowned) { }

    record Firer(int kind, int v) { }

    record Image(int n, List<Edge> edges, int arrows, List<Deed> log, List<Firer> firers) { }

    record Held(char kind, int number, int had, int[] row) { }

    private int n = 4;
    private List<Edge> edges = new ArrayList<>();
    private int arrows = 0;
    private List<Deed> log = new ArrayList<>();
    private List<Firer> firers = new ArrayList<>();
    private final List<Integer> tape = new ArrayList<>();
    private final Map<Integer, Held> holders = new HashMap<>();
    private Image image = null;

    // ---------------------------------------------------------------- the net

    private boolean isNode(int v) {
        return 0 <= v && v < n;
    }

    private boolean isEdge(int e) {
        return 0 <= e && e < edges.size();
    }

    private boolean isArrowing(int a) {
        return 0 <= a && a < Math.pow(2, edges.size());
    }

    private static boolean bit(int a, int e) {
        return a / (int) Math.pow(2, e) % 2 == 1;
    }

    private int from(int a, int e) {
        return bit(a, e) ? edges.get(e).high() : edges.get(e).low();
    }

    private int to(int a, int e) {
        return bit(a, e) ? edges.get(e).low() : edges.get(e).high();
    }

    private boolean has(int e, int v) {
        return edges.get(e).low() == v || edges.get(e).high() == v;
    }

    private int toggled(int a, int v) {
        int result = 0;
        for (int e = 0; e < edges.size(); e++) {
            if (bit(a, e) != has(e, v)) {
                result += (int) Math.pow(2, e);
            }
        }
        return result;
    }

    private int degree(int v) {
        int count = 0;
        for (int e = 0; e < edges.size(); e++) {
            count += has(e, v) ? 1 : 0;
        }
        return count;
    }

    private TreeSet<Integer> sources(int a) {
        TreeSet<Integer> found = new TreeSet<>();
        for (int v = 0; v < n; v++) {
            boolean all = degree(v) > 0;
            for (int e = 0; e < edges.size(); e++) {
                all &= !has(e, v) || from(a, e) == v;
            }
            if (all) {
                found.add(v);
            }
        }
        return found;
    }

    private TreeSet<Integer> sinks(int a) {
        TreeSet<Integer> found = new TreeSet<>();
        for (int v = 0; v < n; v++) {
            boolean all = degree(v) > 0;
            for (int e = 0; e < edges.size(); e++) {
                all &= !has(e, v) || to(a, e) == v;
            }
            if (all) {
                found.add(v);
            }
        }
        return found;
    }

    private boolean hasRound(int a) {
        for (int start = 0; start < n; start++) {
            TreeSet<Integer> come = new TreeSet<>();
            for (int again = 0; again <= n; again++) {
                for (int e = 0; e < edges.size(); e++) {
                    if (from(a, e) == start || come.contains(from(a, e))) {
                        come.add(to(a, e));
                    }
                }
            }
            if (come.contains(start)) {
                return true;
            }
        }
        return false;
    }

    int nodes(int m) {
        if (m < 1 || m > 7) {
            return BAD;
        }
        int was = n;
        n = m;
        edges = new ArrayList<>();
        arrows = 0;
        log = new ArrayList<>();
        return was;
    }

    int edge(int a, int b) {
        if (!isNode(a) || !isNode(b) || a == b) {
            return BAD;
        }
        if (edges.contains(new Edge(Math.min(a, b), Math.max(a, b)))) {
            return STATE;
        }
        if (edges.size() == 10) {
            return FULL;
        }
        if (a > b) {
            arrows += (int) Math.pow(2, edges.size());
        }
        edges.add(new Edge(Math.min(a, b), Math.max(a, b)));
        log = new ArrayList<>();
        return edges.size() - 1;
    }

    int cut(int edge) {
        if (!isEdge(edge)) {
            return BAD;
        }
        List<Boolean> bits = new ArrayList<>();
        for (int e = 0; e < edges.size(); e++) {
            bits.add(bit(arrows, e));
        }
        edges.remove(edge);
        bits.remove(edge);
        arrows = 0;
        for (int e = 0; e < edges.size(); e++) {
            arrows += bits.get(e) ? (int) Math.pow(2, e) : 0;
        }
        log = new ArrayList<>();
        return edges.size();
    }

    int of(int edge, int what) {
        if (!isEdge(edge) || what < 0 || what > 3) {
            return BAD;
        }
        if (what == 0) {
            return edges.get(edge).low();
        }
        if (what == 1) {
            return edges.get(edge).high();
        }
        if (what == 2) {
            return chords().contains(edge) ? 1 : 0;
        }
        return bit(arrows, edge) ? 1 : 0;
    }

    int arrows() {
        return arrows;
    }

    int set(int a) {
        if (!isArrowing(a)) {
            return BAD;
        }
        int were = arrows;
        arrows = a;
        log = new ArrayList<>();
        return were;
    }

    private static int bits(TreeSet<Integer> nodes) {
        int sum = 0;
        for (int v : nodes) {
            sum += (int) Math.pow(2, v);
        }
        return sum;
    }

    int ends(int a, int what) {
        if (!isArrowing(a) || what != 0 && what != 1) {
            return BAD;
        }
        return bits(what == 0 ? sources(a) : sinks(a));
    }

    int free(int a) {
        return !isArrowing(a) ? BAD : hasRound(a) ? 0 : 1;
    }

    // ---------------------------------------------------------------- deeds

    private int deed(int node, boolean drowned) {
        if (!isNode(node)) {
            return BAD;
        }
        if (!(drowned ? sinks(arrows) : sources(arrows)).contains(node)) {
            return STATE;
        }
        arrows = toggled(arrows, node);
        log.add(new Deed(node, drowned));
        if (log.size() > 24) {
            log.remove(0);
        }
        return arrows;
    }

    int fire(int node) {
        return deed(node, false);
    }

    int drown(int node) {
        return deed(node, true);
    }

    int back() {
        if (log.isEmpty()) {
            return STATE;
        }
        arrows = toggled(arrows, log.remove(log.size() - 1).node());
        return arrows;
    }

    private boolean thinOne() {
        for (int k = 0; k + 1 < log.size(); k++) {
            Deed one = log.get(k);
            Deed next = log.get(k + 1);
            if (one.node() == next.node() && one.drowned() != next.drowned()) {
                log.remove(k + 1);
                log.remove(k);
                return true;
            }
        }
        return false;
    }

    int thin() {
        int went = 0;
        while (thinOne()) {
            went += 2;
        }
        return went;
    }

    int log(int k, int what) {
        if (what != 0 && what != 1 || k < 0) {
            return BAD;
        }
        if (k >= log.size()) {
            return NOT;
        }
        return what == 0 ? log.get(k).node() : log.get(k).drowned() ? 1 : 0;
    }

    // ---------------------------------------------------------------- flows, classes

    private boolean joined(int a, int b, List<Edge> by) {
        return way(a, b, by) != null;
    }

    /** A row of NODES from a to b by EDGES of a list, the shortest; null, if there is none. */
    private static List<Integer> way(int a, int b, List<Edge> by) {
        ArrayDeque<List<Integer>> open = new ArrayDeque<>();
        TreeSet<Integer> seen = new TreeSet<>();
        open.add(List.of(a));
        seen.add(a);
        while (!open.isEmpty()) {
            List<Integer> row = open.remove();
            int last = row.get(row.size() - 1);
            if (last == b) {
                return row;
            }
            for (Edge e : by) {
                int next = e.low() == last ? e.high() : e.high() == last ? e.low() : last;
                if (seen.add(next)) {
                    List<Integer> longer = new ArrayList<>(row);
                    longer.add(next);
                    open.add(longer);
                }
            }
        }
        return null;
    }

    private List<Edge> tree() {
        List<Edge> tree = new ArrayList<>();
        for (Edge e : edges) {
            if (!joined(e.low(), e.high(), tree)) {
                tree.add(e);
            }
        }
        return tree;
    }

    private List<Integer> chords() {
        List<Edge> tree = tree();
        List<Integer> found = new ArrayList<>();
        for (int e = 0; e < edges.size(); e++) {
            if (!tree.contains(edges.get(e))) {
                found.add(e);
            }
        }
        return found;
    }

    private int flowOf(int a, int chord) {
        List<Integer> ring = new ArrayList<>();
        ring.add(edges.get(chord).low());
        ring.addAll(way(edges.get(chord).high(), edges.get(chord).low(), tree()));
        int sum = 0;
        for (int i = 0; i + 1 < ring.size(); i++) {
            for (int e = 0; e < edges.size(); e++) {
                if (from(a, e) == ring.get(i) && to(a, e) == ring.get(i + 1)) {
                    sum++;
                }
                if (to(a, e) == ring.get(i) && from(a, e) == ring.get(i + 1)) {
                    sum--;
                }
            }
        }
        return sum;
    }

    private List<Integer> flows(int a) {
        List<Integer> all = new ArrayList<>();
        for (int chord : chords()) {
            all.add(flowOf(a, chord));
        }
        return all;
    }

    private boolean areAlike(int a, int b) {
        return !hasRound(a) && !hasRound(b) && flows(a).equals(flows(b));
    }

    /** The CLASSES in their ORDER, kept as long as the NET is the same. */
    private List<List<Integer>> classes() {
        String net = n + ":" + edges;
        if (!net.equals(classesOf)) {
            Map<List<Integer>, List<Integer>> byFlows = new LinkedHashMap<>();
            for (int a = 0; isArrowing(a); a++) {
                if (!hasRound(a)) {
                    byFlows.computeIfAbsent(flows(a), f -> new ArrayList<>()).add(a);
                }
            }
            classes = new ArrayList<>(byFlows.values());
            classes.sort(Comparator.comparing((List<Integer> c) -> -c.size()).thenComparing(c -> c.get(0)));
            classesOf = net;
        }
        return classes;
    }

    private List<List<Integer>> classes = null;
    private String classesOf = null;

    long flow(int a, int e) {
        return !isArrowing(a) || !chords().contains(e) ? NO : flowOf(a, e);
    }

    int alike(int a, int b) {
        return !isArrowing(a) || !isArrowing(b) ? BAD : areAlike(a, b) ? 1 : 0;
    }

    int many(int what) {
        if (what == 0) {
            return classes().stream().mapToInt(List::size).sum();
        }
        return what == 1 ? classes().size() : BAD;
    }

    int ofClass(int k, int what) {
        if (what != 0 && what != 1 || k < 0) {
            return BAD;
        }
        if (k >= classes().size()) {
            return NOT;
        }
        return what == 0 ? classes().get(k).size() : classes().get(k).get(0);
    }

    int place(int a) {
        if (!isArrowing(a)) {
            return BAD;
        }
        for (int k = 0; k < classes().size(); k++) {
            if (classes().get(k).contains(a)) {
                return k;
            }
        }
        return NOT;
    }

    int rooted(int node) {
        if (!isNode(node)) {
            return BAD;
        }
        int count = 0;
        for (List<Integer> c : classes()) {
            for (int a : c) {
                TreeSet<Integer> s = sources(a);
                count += s.size() == 1 && s.first() == node ? 1 : 0;
            }
        }
        return count;
    }

    /** By the document's words; EDGES with two like ends are kept as such. */
    private static long tutteOf(List<Edge> all, long x, long y) {
        if (all.isEmpty()) {
            return 1;
        }
        Edge e = all.get(all.size() - 1);
        List<Edge> without = all.subList(0, all.size() - 1);
        if (e.low() == e.high()) {
            return y * tutteOf(without, x, y);
        }
        List<Edge> contracted = new ArrayList<>();
        for (Edge o : without) {
            contracted.add(new Edge(o.low() == e.high() ? e.low() : o.low(),
                    o.high() == e.high() ? e.low() : o.high()));
        }
        if (way(e.low(), e.high(), without) == null) {
            return x * tutteOf(contracted, x, y);
        }
        return tutteOf(without, x, y) + tutteOf(contracted, x, y);
    }

    int tutte(int x, int y) {
        if (x < 0 || x > 9 || y < 0 || y > 9) {
            return BAD;
        }
        long value = tutteOf(edges, x, y);
        return value > 2147483647L ? WIDE : (int) value;
    }

    // ---------------------------------------------------------------- firings

    /** Each ARROWING that one can become, with its DISTANCE. */
    private Map<Integer, Integer> distances(int a) {
        Map<Integer, Integer> found = new LinkedHashMap<>();
        ArrayDeque<Integer> open = new ArrayDeque<>();
        found.put(a, 0);
        open.add(a);
        while (!open.isEmpty()) {
            int here = open.remove();
            for (int v : sources(here)) {
                int next = toggled(here, v);
                if (!found.containsKey(next)) {
                    found.put(next, found.get(here) + 1);
                    open.add(next);
                }
            }
        }
        return found;
    }

    int distance(int a, int b) {
        return !isArrowing(a) || !isArrowing(b) ? BAD : distances(a).getOrDefault(b, NOT);
    }

    int step(int a, int b) {
        int d = distance(a, b);
        if (d <= 0) {
            return d == BAD ? BAD : NOT;
        }
        for (int v : sources(a)) {
            if (distance(toggled(a, v), b) == d - 1) {
                return v;
            }
        }
        throw new IllegalStateException();
    }

    int far(int a, int what) {
        if (!isArrowing(a) || what != 0 && what != 1) {
            return BAD;
        }
        int most = 0;
        int which = a;
        for (Map.Entry<Integer, Integer> e : new TreeMap<>(distances(a)).entrySet()) {
            if (e.getValue() > most) {
                most = e.getValue();
                which = e.getKey();
            }
        }
        return what == 0 ? most : which;
    }

    private long waysOf(int a, int m, Map<List<Integer>, Long> known) {
        if (m == 0) {
            return 1;
        }
        List<Integer> key = List.of(a, m);
        if (!known.containsKey(key)) {
            long sum = 0;
            for (int v : sources(a)) {
                sum += waysOf(toggled(a, v), m - 1, known);
            }
            known.put(key, sum);
        }
        return known.get(key);
    }

    long ways(int a, int m) {
        return !isArrowing(a) || m < 0 || m > 12 ? NO : waysOf(a, m, new HashMap<>());
    }

    int trip(int a) {
        if (!isArrowing(a)) {
            return BAD;
        }
        int best = NOT;
        for (int v : sources(a)) {
            int d = distance(toggled(a, v), a);
            if (d >= 0 && (best < 0 || d + 1 < best)) {
                best = d + 1;
            }
        }
        return best;
    }

    // ---------------------------------------------------------------- words

    private List<Integer> places(int word) {
        String digits = String.valueOf(word);
        List<Integer> places = new ArrayList<>();
        for (int v = 0; v < n; v++) {
            places.add(digits.indexOf((char) ('1' + v)));
        }
        return digits.length() != n || places.contains(-1) ? null : places;
    }

    private int arrowsOf(List<Integer> places) {
        int a = 0;
        for (int e = 0; e < edges.size(); e++) {
            if (places.get(edges.get(e).high()) < places.get(edges.get(e).low())) {
                a += (int) Math.pow(2, e);
            }
        }
        return a;
    }

    private void allWords(String begun, List<Integer> found) {
        if (begun.length() == n) {
            found.add(Integer.parseInt(begun));
            return;
        }
        for (char d = '1'; d < '1' + n; d++) {
            if (begun.indexOf(d) < 0) {
                allWords(begun + d, found);
            }
        }
    }

    int byWord(int word) {
        List<Integer> places = places(word);
        return places == null ? BAD : arrowsOf(places);
    }

    int words(int a, int what) {
        if (!isArrowing(a) || what != 0 && what != 1) {
            return BAD;
        }
        List<Integer> all = new ArrayList<>();
        allWords("", all);
        all.removeIf(word -> byWord(word) != a);
        return what == 1 ? all.size() : all.isEmpty() ? NOT : all.get(0);
    }

    int turn(int word) {
        if (places(word) == null) {
            return BAD;
        }
        String digits = String.valueOf(word);
        return Integer.parseInt(digits.substring(1) + digits.charAt(0));
    }

    int conjugate(int one, int other) {
        if (places(one) == null || places(other) == null) {
            return BAD;
        }
        return areAlike(byWord(one), byWord(other)) ? 1 : 0;
    }

    int off(int one, int other) {
        List<Integer> p = places(one);
        List<Integer> q = places(other);
        if (p == null || q == null) {
            return BAD;
        }
        if (arrowsOf(p) != arrowsOf(q)) {
            return NOT;
        }
        int pairs = 0;
        for (int v = 0; v < n; v++) {
            for (int w = 0; w < n; w++) {
                pairs += p.get(v) < p.get(w) && q.get(v) > q.get(w) ? 1 : 0;
            }
        }
        return pairs;
    }

    // ---------------------------------------------------------------- firers

    int firer(int kind, int v) {
        if (kind < 0 || kind > 5 || v < 0 || v > 6) {
            return BAD;
        }
        if (firers.size() == 4) {
            return FULL;
        }
        firers.add(new Firer(kind, v));
        return firers.size() - 1;
    }

    private int chosen(Firer firer, TreeSet<Integer> sources, List<Integer> fired) {
        TreeSet<Integer> some = new TreeSet<>(sources);
        switch (firer.kind()) {
            case 0:
                return sources.first();
            case 1:
                return sources.last();
            case 2:
                return sources.ceiling(firer.v()) != null ? sources.ceiling(firer.v()) : sources.first();
            case 3:
                some.removeIf(v -> sources.stream().anyMatch(w -> times(fired, w) < times(fired, v)));
                return some.last();
            case 4:
                some.removeIf(v -> sources.stream().anyMatch(w -> degree(w) > degree(v)));
                return chosen(new Firer(2, firer.v()), some, fired);
            default:
                some.removeIf(v -> sources.stream().anyMatch(w -> times(fired, w) > times(fired, v)));
                return some.last();
        }
    }

    private static int times(List<Integer> fired, int v) {
        return (int) fired.stream().filter(w -> w == v).count();
    }

    int runs(int firer, int m, int what) {
        boolean known = what >= 0 && what <= 2 || what >= 10 && what <= 49 || what >= 60 && what < 60 + n;
        if (firer < 0 || firer >= firers.size() || m < 0 || m > 40 || !known) {
            return BAD;
        }
        List<Integer> fired = new ArrayList<>();
        int a = arrows;
        int same = NOT;
        while (fired.size() < m && !sources(a).isEmpty()) {
            int v = chosen(firers.get(firer), sources(a), fired);
            a = toggled(a, v);
            fired.add(v);
            if (same == NOT && a == arrows) {
                same = fired.size();
            }
        }
        if (what == 0) {
            return a;
        }
        if (what == 1) {
            return fired.size();
        }
        if (what == 2) {
            return same;
        }
        if (what >= 60) {
            return times(fired, what - 60);
        }
        return what - 10 < fired.size() ? fired.get(what - 10) : NOT;
    }

    // ---------------------------------------------------------------- texts

    int feed(int v, int m) {
        if (m < 1 || m > 4) {
            return BAD;
        }
        if (tape.size() + m > 40) {
            return FULL;
        }
        String hex = String.format("%08x", v);
        for (int k = 4 - m; k < 4; k++) {
            tape.add(Integer.parseInt(hex.substring(2 * k, 2 * k + 2), 16));
        }
        return tape.size();
    }

    int wipe() {
        int had = tape.size();
        tape.clear();
        return had;
    }

    /** THE TAPE byte by byte: each place asks for its own signs. */
    int read() {
        List<Integer> text = new ArrayList<>(tape);
        tape.clear();
        Plain drawn = new Plain();
        for (int i = 0; i < text.size(); i++) {
            char c = (char) (int) text.get(i);
            boolean good;
            if (i == 0) {
                good = "1234567".indexOf(c) >= 0;
                drawn.nodes(good ? c - '0' : 1);
            } else if (i % 3 == 1) {
                good = c == ';' && drawn.edges.size() < 10;
            } else if (i % 3 == 2) {
                good = "0123456".substring(0, drawn.n).indexOf(c) >= 0;
            } else {
                good = "0123456".substring(0, drawn.n).indexOf(c) >= 0
                        && drawn.edge(text.get(i - 1) - '0', c - '0') >= 0;
            }
            if (!good) {
                return -1000 - i;
            }
        }
        if (text.size() % 3 != 1) {
            return -1000 - text.size();
        }
        n = drawn.n;
        edges = drawn.edges;
        arrows = drawn.arrows;
        log = new ArrayList<>();
        return edges.size();
    }

    int spell(int i) {
        if (i < 0) {
            return BAD;
        }
        StringBuilder text = new StringBuilder().append(n);
        for (int e = 0; e < edges.size(); e++) {
            text.append(';').append(from(arrows, e)).append(to(arrows, e));
        }
        return i < text.length() ? text.charAt(i) : NOT;
    }

    // ---------------------------------------------------------------- holders, the image

    private static boolean isHolder(int h) {
        return 0 <= h && h <= 5;
    }

    int hold(int h, int what, int v) {
        if (isHolder(h) && what == 0 && isArrowing(v)) {
            holders.put(h, new Held('a', v, edges.size(), null));
            return v;
        }
        if (isHolder(h) && what == 1 && places(v) != null) {
            holders.put(h, new Held('w', v, n, null));
            return v;
        }
        return BAD;
    }

    int drop(int h) {
        if (!isHolder(h)) {
            return BAD;
        }
        Held was = holders.remove(h);
        return was == null ? 0 : 1 + "awr".indexOf(was.kind());
    }

    int taken(int h, int kind) {
        if (!isHolder(h) || kind < 0 || kind > 2) {
            return BAD;
        }
        Held held = holders.get(h);
        if (held == null) {
            return -11;
        }
        if (kind == 0 && held.kind() != 'r') {
            return held.number();
        }
        return kind == 1 && held.kind() == 'a' || kind == 2 && held.kind() == 'w' ? held.had() : -12;
    }

    int row(int h, int m) {
        if (!isHolder(h) || m > 20) {
            return BAD;
        }
        if (m < 0) {
            return -14;
        }
        holders.put(h, new Held('r', 0, 0, new int[m]));
        return m;
    }

    int put(int h, int i, int v) {
        if (!isHolder(h)) {
            return BAD;
        }
        Held held = holders.get(h);
        if (held == null) {
            return -11;
        }
        if (held.kind() != 'r') {
            return -12;
        }
        if (i < 0 || i >= held.row().length) {
            return -13;
        }
        held.row()[i] = v;
        return 1;
    }

    long get(int h, int i) {
        Held held = isHolder(h) ? holders.get(h) : null;
        if (held == null || held.kind() != 'r' || i < 0 || i >= held.row().length) {
            return NO;
        }
        return held.row()[i];
    }

    int judge(int h, int a) {
        if (!isHolder(h) || !isArrowing(a)) {
            return BAD;
        }
        Held held = holders.get(h);
        if (held == null) {
            return -11;
        }
        if (held.kind() != 'r') {
            return -12;
        }
        List<Integer> flows = flows(a);
        for (int k = 0; k < flows.size(); k++) {
            if (k >= held.row().length || held.row()[k] != flows.get(k)) {
                return k;
            }
        }
        return held.row().length > flows.size() ? flows.size() : NOT;
    }

    int image() {
        image = new Image(n, List.copyOf(edges), arrows, List.copyOf(log), List.copyOf(firers));
        return edges.size();
    }

    int undo() {
        if (image == null) {
            return STATE;
        }
        n = image.n();
        edges = new ArrayList<>(image.edges());
        arrows = image.arrows();
        log = new ArrayList<>(image.log());
        firers = new ArrayList<>(image.firers());
        return edges.size();
    }

    int count(int what) {
        return switch (what) {
            case 0 -> n;
            case 1 -> edges.size();
            case 2 -> log.size();
            case 3 -> firers.size();
            case 4 -> tape.size();
            case 5 -> chords().size();
            default -> BAD;
        };
    }
}
