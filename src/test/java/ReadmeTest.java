import java.io.ByteArrayOutputStream;
import java.io.PrintStream;
import java.lang.reflect.Field;
import java.lang.reflect.Method;
import java.lang.reflect.Modifier;
import java.net.URL;
import java.net.URLClassLoader;
import java.nio.file.Files;
import java.nio.file.Path;
import java.util.ArrayList;
import java.util.Arrays;
import java.util.List;
import java.util.regex.Matcher;
import java.util.regex.Pattern;
import java.util.spi.ToolProvider;

/** README.md (beside the class, which is told as the first argument): its program prints what it says. */
public final class ReadmeTest {
    private static final Check CHECK = new Check("ReadmeTest");

    public static void main(String[] args) throws Exception {
        Path root = Path.of(args[0]).toAbsolutePath().getParent().resolve("../../..").normalize();
        String text = Files.readString(root.resolve("README.md"));
        Matcher block = Pattern.compile("(?s)```java\n(.*?)```").matcher(text);
        CHECK.that("there is a program", block.find());
        example(block.group(1));
        names(text.substring(block.end()));
        CHECK.that("the command of the tests stands there", text.contains("\n    .ci/run\n"));
        CHECK.that("that command can be run", Files.isExecutable(root.resolve(".ci/run")));
        CHECK.end();
    }

    private static void example(String program) throws Exception {
        List<String> calls = new ArrayList<>();
        List<String> due = new ArrayList<>();
        Matcher line = Pattern.compile("println\\((.*)\\); +// ([^:\n]+)").matcher(program);
        while (line.find()) {
            calls.add(line.group(1));
            due.add(line.group(2));
        }
        List<String> got = printed(program);
        CHECK.due("lines that the program prints", got.size(), due.size());
        for (int i = 0; i < Math.min(got.size(), due.size()); i++) {
            CHECK.same(calls.get(i), got.get(i), due.get(i));
        }
    }

    /** Compiles the program against the class, runs it, and tells what it prints. */
    private static List<String> printed(String program) throws Exception {
        URL compiled = ArrowTurner.class.getProtectionDomain().getCodeSource().getLocation();
        Path room = Files.createTempDirectory("readme");
        Path source = Files.writeString(room.resolve("Example.java"), program);
        int failed = ToolProvider.findFirst("javac").orElseThrow().run(System.out, System.out,
                "-cp", Path.of(compiled.toURI()).toString(), "-d", room.toString(), source.toString());
        CHECK.due("javac of the program", failed, 0);
        PrintStream before = System.out;
        ByteArrayOutputStream out = new ByteArrayOutputStream();
        try (URLClassLoader loader = new URLClassLoader(new URL[] {room.toUri().toURL()});
                PrintStream into = new PrintStream(out)) {
            System.setOut(into);
            loader.loadClass("Example").getMethod("main", String[].class).invoke(null, (Object) new String[0]);
        } finally {
            System.setOut(before);
            for (String file : new String[] {"Example.class", "Example.java", ""}) {
                Files.deleteIfExists(room.resolve(file));
            }
        }
        return Arrays.asList(out.toString().split("\\R"));
    }

    /** Each method of the face, with so many parameters, and each constant stand behind the program. */
    private static void names(String tables) {
        for (Method m : ArrowTurner.class.getDeclaredMethods()) {
            if (Modifier.isPublic(m.getModifiers())) {
                int n = m.getParameterCount();
                String call = "`" + m.getName() + "\\(" + (n == 0 ? "" : "\\w+(, \\w+){" + (n - 1) + "}") + "\\)`";
                CHECK.that("a table names " + m, Pattern.compile(call).matcher(tables).find());
            }
        }
        for (Field f : ArrowTurner.class.getDeclaredFields()) {
            if (Modifier.isPublic(f.getModifiers())) {
                CHECK.that("a table names " + f, tables.contains("`" + f.getName() + "`"));
            }
        }
    }
}
