import java.io.PrintWriter;
import java.io.StringWriter;
import java.lang.reflect.Field;
import java.lang.reflect.Modifier;
import java.nio.file.Files;
import java.nio.file.Path;
import java.util.ArrayList;
import java.util.HashMap;
import java.util.HashSet;
import java.util.List;
import java.util.Map;
import java.util.Set;
import java.util.TreeSet;
import java.util.regex.Matcher;
import java.util.regex.Pattern;
import java.util.spi.ToolProvider;

/** src/main/java/ArrowTurner.java (told as the first argument) keeps to ../shared/LANGUAGE.md. */
public final class LanguageTest {
    private static final Check CHECK = new Check("LanguageTest");
    private static final Pattern METHOD = Pattern.compile(
            "^ +(?:public |private |protected |static |final |abstract )*[A-Za-z0-9_\\[\\]<>]+ "
            + "([a-z][A-Za-z0-9]*)\\(([^)]*)\\) \\{$");
    private static final String[] LIBRARY = {"(Integer|Long)\\.(MAX_VALUE|MIN_VALUE)",
        "(Integer|Long|Math)\\.[a-z][A-Za-z]*(?<!Exact)", "System\\.arraycopy",
        "Arrays\\.(copyOf|copyOfRange|fill)", "List\\.of"};

    public static void main(String[] args) throws Exception {
        String text = Files.readString(Path.of(args[0]));
        String code = text.replaceAll("(?s)/\\*.*?\\*/", "").replaceAll("//[^\n]*", "");
        CHECK.that("rule 4: signs above 127", text.chars().allMatch(c -> c < 128));
        words(code);
        library(code);
        classes();
        methods(code);
        depth();
        CHECK.end();
    }

    private static void none(String rule, String code, String wrong) {
        Matcher found = Pattern.compile(wrong).matcher(code);
        CHECK.that(rule + ": " + (found.find() ? found.group() : ""), !Pattern.compile(wrong).matcher(code).find());
    }

    private static void words(String code) {
        none("rule 1, a package", code, "\\b(package|protected)\\b");
        none("rule 2, a lambda", code, "(?m)^(?!\\s*(case|default)\\b).*->");
        none("rule 2, a method reference", code, "::");
        none("rule 4, a library", code, "\\bimport (?!java\\.util\\.(ArrayList|List|Arrays|Iterator);)");
        none("rule 5, a static initialiser", code, "\\bstatic\\s*\\{");
        none("rule 6", code, "\\b(throw|throws|try|catch|finally|synchronized|assert|native|volatile)\\b");
        none("rule 6, of own objects", code, "\\b(boolean equals|int hashCode|String toString)\\(");
        none("rule 10, texts joined by +", code, "\"\\s*\\+|\\+\\s*\"");
    }

    private static void library(String code) {
        Set<String> own = new HashSet<>(List.of("ArrowTurner"));
        for (Class<?> inside : ArrowTurner.class.getDeclaredClasses()) {
            own.add(inside.getSimpleName());
        }
        Matcher call = Pattern.compile("\\b([A-Z][A-Za-z]*)\\.([A-Za-z_]+)").matcher(code);
        while (call.find()) {
            boolean allowed = own.contains(call.group(1));
            for (String name : LIBRARY) {
                allowed |= call.group().matches(name);
            }
            CHECK.that("rule 4: " + call.group(), allowed);
        }
    }

    private static void classes() {
        List<Class<?>> all = new ArrayList<>(List.of(ArrowTurner.class.getDeclaredClasses()));
        all.add(ArrowTurner.class);
        CHECK.that("rule 11: " + all.size() + " classes", all.size() <= 12);
        for (Class<?> one : all) {
            int fields = 0;
            for (Field f : one.getDeclaredFields()) {
                boolean isStatic = Modifier.isStatic(f.getModifiers());
                CHECK.that("rule 5: " + f, !isStatic || Modifier.isFinal(f.getModifiers()));
                fields += isStatic ? 0 : 1;
            }
            CHECK.that("rule 11: " + one + " has " + fields + " fields", fields <= 20);
        }
    }

    private static void methods(String code) {
        String[] lines = code.split("\n");
        int found = 0;
        for (int i = 0; i < lines.length; i++) {
            Matcher head = METHOD.matcher(lines[i]);
            if (head.matches()) {
                String end = lines[i].replaceAll("\\S.*", "") + "}";
                int k = i + 1;
                while (!lines[k].equals(end)) {
                    k++;
                }
                found++;
                CHECK.that("rule 11: " + head.group(1) + " is long", k - i <= 60);
                CHECK.that("rule 11: " + head.group(1) + " has many parameters", head.group(2).split(",").length <= 7);
            }
        }
        CHECK.that("the methods were found", found >= 46);
    }

    /** Which method calls which, as the compiled classes tell it. */
    private static void depth() throws Exception {
        Path compiled = Path.of(ArrowTurner.class.getProtectionDomain().getCodeSource().getLocation().toURI());
        List<String> given = new ArrayList<>(List.of("-p", "-c"));
        given.add(compiled.resolve("ArrowTurner.class").toString());
        for (Class<?> inside : ArrowTurner.class.getDeclaredClasses()) {
            given.add(compiled.resolve(inside.getName() + ".class").toString());
        }
        StringWriter told = new StringWriter();
        PrintWriter out = new PrintWriter(told);
        ToolProvider.findFirst("javap").orElseThrow().run(out, out, given.toArray(new String[0]));
        Map<String, TreeSet<String>> calls = calls(told.toString());
        CHECK.that("the calls were found", calls.size() > 46);
        for (String name : calls.keySet()) {
            CHECK.that("rule 11: " + name + " goes too deep", depth(name, calls, new HashSet<>()) <= 8);
        }
    }

    private static Map<String, TreeSet<String>> calls(String told) {
        Map<String, TreeSet<String>> calls = new HashMap<>();
        String inClass = "";
        TreeSet<String> called = new TreeSet<>();
        Pattern head = Pattern.compile("^  (?! ).*?([A-Za-z$]+)\\(.*\\).*;$");
        Pattern call = Pattern.compile("// (?:Interface)?Method (?:([A-Za-z$/]+)\\.)?\"?([A-Za-z<>]+)\"?:");
        for (String line : told.split("\n")) {
            if (line.endsWith("{")) {
                inClass = line.replaceAll(".*class ([A-Za-z$]+).*", "$1");
            } else if (head.matcher(line).matches()) {
                String name = head.matcher(line).replaceAll("$1");
                called = calls.computeIfAbsent(inClass + "." + name, n -> new TreeSet<>());
            } else if (call.matcher(line).find()) {
                Matcher found = call.matcher(line);
                found.find();
                called.add((found.group(1) == null ? inClass : found.group(1)) + "." + found.group(2));
            }
        }
        return calls;
    }

    /** How deep calls go; one that comes back to an open one is a recursion, which does not count. */
    private static int depth(String name, Map<String, TreeSet<String>> calls, Set<String> open) {
        int most = 0;
        open.add(name);
        for (String called : calls.get(name)) {
            if (calls.containsKey(called) && !open.contains(called)) {
                most = Math.max(most, depth(called, calls, open));
            }
        }
        open.remove(name);
        return most + 1;
    }
}
