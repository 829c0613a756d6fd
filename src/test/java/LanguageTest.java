import java.lang.reflect.Field;
import java.lang.reflect.Modifier;
import java.nio.file.Files;
import java.nio.file.Path;
import java.util.ArrayList;
import java.util.HashMap;
import java.util.List;
import java.util.Map;
import java.util.TreeSet;
import java.util.regex.Matcher;
import java.util.regex.Pattern;

/** src/main/java/ArrowTurner.java (told as the first argument) keeps to ../shared/LANGUAGE.md. */
public final class LanguageTest {
    private static final Check CHECK = new Check("LanguageTest");
    private static final Pattern METHOD = Pattern.compile(
            "^ +(?:public |private |static |final )*[A-Za-z\\[\\]]+ ([a-z][A-Za-z]*)\\(([^)]*)\\) \\{$");
    private static final String BANNED = "throw|throws|try|catch|finally|synchronized|assert|import|package"
            + "|native|volatile|transient|double|float|yield|var|record|sealed|System|Object|hashCode|toString"
            + "|equals|StringBuilder|String";

    public static void main(String[] args) throws Exception {
        String text = Files.readString(Path.of(args[0]));
        CHECK.that("signs above 127", text.chars().allMatch(c -> c < 128));
        String code = text.replaceAll("(?s)/\\*.*?\\*/", "").replaceAll("//[^\n]*", "");
        words(code);
        classes();
        makes(code);
        methods(code);
        CHECK.end();
    }

    private static void words(String code) {
        Matcher banned = Pattern.compile("\\b(" + BANNED + ")\\b|->|::|@|\"").matcher(code);
        CHECK.that("a word or sign that may not be", !banned.find());
        Matcher library = Pattern.compile("\\b([A-Z][A-Za-z]*)\\.([A-Za-z_]+)").matcher(code);
        while (library.find()) {
            String call = library.group();
            CHECK.that(call, List.of("Integer.bitCount", "Math.min", "Math.max", "Long.MIN_VALUE").contains(call));
        }
    }

    private static void classes() {
        List<Class<?>> all = new ArrayList<>(List.of(ArrowTurner.class.getDeclaredClasses()));
        CHECK.that("too many classes", all.size() < 12);
        all.add(ArrowTurner.class);
        for (Class<?> one : all) {
            int fields = 0;
            for (Field f : one.getDeclaredFields()) {
                boolean isStatic = Modifier.isStatic(f.getModifiers());
                CHECK.that(f + " is static, not final", !isStatic || Modifier.isFinal(f.getModifiers()));
                fields += isStatic ? 0 : 1;
            }
            CHECK.that(one + " has too many fields", fields <= 20);
            CHECK.that(one + " has a class inside", one == ArrowTurner.class || one.getDeclaredClasses().length == 0);
        }
    }

    /** Nothing is made but with the object, so that no run of calls can fill the room. */
    private static void makes(String code) {
        for (String line : code.split("\n")) {
            boolean first = line.strip().matches("(private )?final \\S+ \\S+ = new .*");
            CHECK.that("makes something: " + line,
                    !line.matches(".*\\bnew\\b.*") || first || line.strip().equals("holders[h] = new Holder();"));
        }
    }

    /** Methods are short, have few parameters, call no one that calls them, and go no deeper than 8. */
    private static void methods(String code) {
        Map<String, TreeSet<String>> calls = new HashMap<>();
        String[] lines = code.split("\n");
        for (int i = 0; i < lines.length; i++) {
            Matcher head = METHOD.matcher(lines[i]);
            if (head.matches()) {
                String end = lines[i].replaceAll("\\S.*", "") + "}";
                int k = i + 1;
                TreeSet<String> called = calls.computeIfAbsent(head.group(1), name -> new TreeSet<>());
                while (!lines[k].equals(end)) {
                    Matcher call = Pattern.compile("\\b([a-z][A-Za-z]*)\\(").matcher(lines[k]);
                    while (call.find()) {
                        called.add(call.group(1));
                    }
                    k++;
                }
                CHECK.that(head.group(1) + " is long", k - i <= 60);
                CHECK.that(head.group(1) + " has many parameters", head.group(2).split(",").length <= 7);
            }
        }
        CHECK.that("the methods were found", calls.size() > 100);
        for (String name : calls.keySet()) {
            CHECK.that(name + " goes too deep or round", depth(name, calls, 0) <= 8);
        }
    }

    private static int depth(String name, Map<String, TreeSet<String>> calls, int guard) {
        int most = 0;
        if (guard > 20) {
            return guard;
        }
        for (String called : calls.getOrDefault(name, new TreeSet<>())) {
            if (calls.containsKey(called)) {
                most = Math.max(most, depth(called, calls, guard + 1));
            }
        }
        return most + 1;
    }
}
