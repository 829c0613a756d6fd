import java.lang.reflect.Method;
import java.util.ArrayList;
import java.util.List;
import java.util.Map;
import java.util.TreeMap;

/**
 * Long runs of calls, some with wrong numbers, on ArrowTurner and on Plain: all answers must be the
 * same. The numbers come from a row that is always the same, so that every run can be run again.
 */
public final class CompareTest {
    private static final int RUNS = 160, CALLS = 512;

    /**
     * What each parameter is: n a NODE, e an EDGE, a an ARROWING, w a WORD, h a HOLDER, f a FIRER; a
     * digit or a letter behind it: 0 up to it (z: 49 and the like of runs(), i: of any size).
     */
    private static final Map<String, String> CALLED = new TreeMap<>();

    static {
        String[] all = {"nodes 7", "edge nn", "cut e", "of e3", "arrows", "set a", "ends a1", "free a",
            "fire n", "drown n", "back", "thin", "log 81", "flow ae", "alike aa", "many 1", "ofClass 81",
            "place a", "rooted n", "tutte 99", "distance aa", "step aa", "far a1", "ways at", "trip a",
            "byWord w", "words a1", "turn w", "conjugate ww", "off ww", "firer 56", "runs fqz", "feed i4",
            "wipe", "read", "spell s", "hold h1b", "drop h", "taken h2", "row h6", "put h5d", "get h5",
            "judge ha", "image", "undo", "count 5"};
        for (String line : all) {
            String[] parts = line.split(" ");
            CALLED.put(parts[0], parts.length > 1 ? parts[1] : "");
        }
    }

    private static final List<String> NAMES = new ArrayList<>(CALLED.keySet());
    private static final List<String> OFTEN = List.of("fire", "drown", "edge", "alike", "distance", "runs", "off");
    private static final List<String> DEEDS = List.of("fire", "drown", "fire", "drown", "log");
    /** By kinds of runs: a TEXT is fed once in so many calls. */
    private static final int[] TEXTS = {60, 30, 15, 300};

    private long seed;
    private ArrowTurner real;
    private Plain plain;

    public static void main(String[] args) throws Exception {
        Check check = new Check("CompareTest");
        for (Method m : ArrowTurner.class.getDeclaredMethods()) {
            if (java.lang.reflect.Modifier.isPublic(m.getModifiers())) {
                String kinds = CALLED.get(m.getName());
                check.that("the test calls " + m.getName(),
                        kinds != null && kinds.length() == m.getParameterCount());
            }
        }
        CompareTest test = new CompareTest();
        for (int run = 0; run < RUNS && check.wrong() == 0; run++) {
            test.compare(check, run);
        }
        check.end();
    }

    private int below(int bound) {
        seed = seed * 6364136223846793005L + 1442695040888963407L;
        return (int) ((seed >>> 33) % bound);
    }

    /** Which call comes next: of all (kind 0), less often those by which much begins anew, or deeds. */
    private String nameFor(int kind) {
        String name = NAMES.get(below(NAMES.size()));
        boolean anew = List.of("nodes", "edge", "cut", "set", "read", "undo").contains(name);
        if (kind == 3) {
            boolean deed = anew || below(4) > 0;
            return !deed ? name : below(40) == 0 ? "thin" : below(20) == 0 ? "back" : DEEDS.get(below(DEEDS.size()));
        }
        if (kind > 0 && anew && below(3) > 0 || below(9) == 0) {
            return OFTEN.get(below(OFTEN.size()));
        }
        return name;
    }

    private void compare(Check check, int run) throws Exception {
        seed = 1000003L * run + 17;
        below(2);
        real = new ArrowTurner();
        plain = new Plain();
        List<String> told = new ArrayList<>();
        while (told.size() < CALLS && check.wrong() == 0) {
            int before = told.size();
            if (told.isEmpty() || below(TEXTS[run % 4]) == 0) {
                feedText(told);
            }
            if (told.size() % 50 == 49) {
                judgeFlows(told);
            }
            String name = nameFor(run % 4);
            call(told, name, arguments(CALLED.get(name)));
            for (int k = before; k < told.size(); k++) {
                check.that("run " + run + ", call " + k + ": " + told.get(k), !told.get(k).contains("due is"));
            }
        }
        if (check.wrong() > 0) {
            told.forEach(System.out::println);
        }
    }

    /** Calls both, and tells the call with what was answered; behind the last call an object is free. */
    private void call(List<String> told, String name, int... numbers) throws Exception {
        if (told.size() >= CALLS) {
            return;
        }
        Object[] given = new Object[numbers.length];
        Class<?>[] kinds = new Class<?>[numbers.length];
        StringBuilder row = new StringBuilder(name).append('(');
        for (int i = 0; i < numbers.length; i++) {
            given[i] = numbers[i];
            kinds[i] = int.class;
            row.append(i > 0 ? ", " : "").append(numbers[i]);
        }
        Object got = ArrowTurner.class.getDeclaredMethod(name, kinds).invoke(real, given);
        Object want = Plain.class.getDeclaredMethod(name, kinds).invoke(plain, given);
        row.append(") answered ").append(got);
        told.add(got.equals(want) ? row.toString() : row.append(", due is ").append(want).toString());
    }

    private int[] arguments(String kinds) {
        int[] numbers = new int[kinds.length()];
        for (int i = 0; i < numbers.length; i++) {
            numbers[i] = argument(kinds.charAt(i));
            if (i > 0 && kinds.charAt(i) == 'w' && below(2) == 0) {
                numbers[i] = swapped(numbers[i - 1]);
            }
        }
        if (kinds.equals("h1b") && numbers[1] == 1 && below(8) > 0) {
            numbers[2] = argument('w');
        }
        if (kinds.equals("hd")) {
            numbers[1] = argument('d');
        }
        return numbers;
    }

    private int argument(char kind) {
        int odd = below(40);
        if (odd == 0) {
            int[] wild = {Integer.MIN_VALUE, Integer.MAX_VALUE, -1, -2, 1 << below(31), 1023, 1024, 99};
            return wild[below(wild.length)];
        }
        int edges = plain.count(1);
        switch (kind) {
            case 'n':
                return below(plain.count(0) + (odd == 1 ? 1 : 0));
            case 'e':
                return odd == 1 || edges == 0 ? edges : below(edges);
            case 'a':
            case 'b':
                return odd == 1 ? 1 << edges : below(1 << edges);
            case 'w':
                return word(odd == 1);
            case 'h':
                return below(odd == 1 ? 7 : 3);
            case 'f':
                return below(plain.count(3) + (odd == 1 ? 1 : 0) + 1);
            case 'z':
                return new int[] {below(3), 10 + below(12), 60 + below(7), below(80)}[below(4)];
            case 'q':
                return below(odd == 1 ? 45 : 14);
            case 't':
                return below(14);
            case 's':
                return below(3 * edges + 2);
            case 'd':
                return below(9) - 4;
            case 'i':
                return below(1 << 30) << 1;
            default:
                return below(kind - '0' + (odd == 1 ? 2 : 1));
        }
    }

    private int word(boolean wrong) {
        List<Integer> nodes = new ArrayList<>();
        for (int v = 0; v < plain.count(0); v++) {
            nodes.add(v + 1);
        }
        int word = 0;
        while (!nodes.isEmpty()) {
            word = word * 10 + nodes.remove(below(nodes.size()));
        }
        return wrong ? word + new int[] {1, 10, -word / 10 * 9, word * 9, -2 * word}[below(5)] : word;
    }

    /** A WORD with two neighbours changed about, so that ARROWS are often the same. */
    private int swapped(int word) {
        char[] digits = String.valueOf(word).toCharArray();
        for (int again = 0; again < 2 && digits.length > 1 && digits.length < 8; again++) {
            int i = below(digits.length - 1);
            char first = digits[i];
            digits[i] = digits[i + 1];
            digits[i + 1] = first;
        }
        return digits[0] == '-' || digits.length > 7 || word < 0 ? word : Integer.parseInt(new String(digits));
    }

    /** Feeds the TEXT of a NET, at times a wrong one, and reads it. */
    private void feedText(List<String> told) throws Exception {
        int n = 2 + below(6);
        StringBuilder text = new StringBuilder().append(n);
        int tries = below(20);
        for (int k = 0; k < tries; k++) {
            String from = String.valueOf(below(n));
            String to = String.valueOf(below(n));
            boolean there = text.indexOf(";" + from + to) >= 0 || text.indexOf(";" + to + from) >= 0;
            if (!from.equals(to) && !there && text.length() < 31) {
                text.append(';').append(from).append(to);
            }
        }
        if (below(3) == 0) {
            spoil(text);
        }
        for (int i = 0; i < text.length(); i += 2) {
            boolean two = i + 1 < text.length();
            int bytes = two ? text.charAt(i) << 8 | text.charAt(i + 1) : text.charAt(i);
            call(told, "feed", bytes, two ? 2 : 1);
        }
        call(told, "read");
    }

    /** A ROW that tells the FLOWS of an ARROWING, or nearly so, is JUDGED. */
    private void judgeFlows(List<String> told) throws Exception {
        int arrowing = below(1 << plain.count(1));
        int cells = plain.count(5);
        call(told, "row", 2, cells + below(3) % 2);
        for (int e = 0, k = 0; e < plain.count(1); e++) {
            if (plain.of(e, 2) == 1) {
                call(told, "put", 2, k, (int) plain.flow(arrowing, e) + (below(9) == 0 ? 2 : 0));
                k++;
            }
        }
        call(told, "judge", 2, arrowing);
        call(told, "judge", 2, below(1 << plain.count(1)));
    }

    private void spoil(StringBuilder text) {
        int at = below(text.length());
        switch (below(4)) {
            case 0:
                text.setCharAt(at, "0127;89:\u00fe\u0000".charAt(below(10)));
                break;
            case 1:
                text.setLength(at);
                break;
            case 2:
                text.insert(at, (char) ('0' + below(8)));
                break;
            default:
                text.append(";0123;".substring(0, 1 + below(6)));
        }
    }
}
