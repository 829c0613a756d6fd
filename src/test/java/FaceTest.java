import java.lang.reflect.Field;
import java.lang.reflect.Method;
import java.lang.reflect.Modifier;
import java.util.ArrayList;
import java.util.Arrays;
import java.util.List;
import java.util.TreeSet;
import java.util.stream.Collectors;

/** The public face is that of the document, and nothing else can be seen. */
public final class FaceTest {
    private static final String FACE = """
            int nodes(int n); int edge(int from, int to); int cut(int edge); int of(int edge, int what);
            int arrows(); int set(int arrowing); int ends(int arrowing, int what); int free(int arrowing);
            int fire(int node); int drown(int node); int back(); int thin(); int log(int k, int what);
            long flow(int arrowing, int edge); int alike(int one, int other); int many(int what);
            int ofClass(int k, int what); int place(int arrowing); int rooted(int node);
            int tutte(int x, int y); int distance(int from, int to); int step(int from, int to);
            int far(int arrowing, int what); long ways(int arrowing, int n); int trip(int arrowing);
            int byWord(int word); int words(int arrowing, int what); int turn(int word);
            int conjugate(int one, int other); int off(int one, int other); int firer(int kind, int v);
            int runs(int firer, int n, int what); int feed(int v, int n); int wipe(); int read();
            int spell(int i); int hold(int h, int what, int v); int drop(int h);
            int taken(int h, int kind); int row(int h, int n); int put(int h, int i, int v);
            long get(int h, int i); int judge(int h, int arrowing); int image(); int undo();
            int count(int what);
            """;
    private static final Check CHECK = new Check("FaceTest");

    public static void main(String[] args) throws Exception {
        Class<?> face = ArrowTurner.class;
        CHECK.that("public and final", face.getModifiers() == (Modifier.PUBLIC | Modifier.FINAL));
        CHECK.that("no package", face.getPackageName().isEmpty());
        CHECK.that("one constructor", face.getDeclaredConstructors().length == 1);
        CHECK.that("it is public", Modifier.isPublic(face.getConstructor().getModifiers()));
        methods(face);
        constants(face);
        names(face);
        CHECK.end();
    }

    private static void methods(Class<?> face) {
        TreeSet<String> want = new TreeSet<>();
        for (String one : FACE.split(";")) {
            if (!one.isBlank()) {
                want.add(one.strip().replaceAll("int [a-z]+([,)])", "int$1"));
            }
        }
        TreeSet<String> got = new TreeSet<>();
        for (Method m : face.getDeclaredMethods()) {
            if (!Modifier.isPrivate(m.getModifiers()) && !m.isSynthetic()) {
                CHECK.that(m + " is public", m.getModifiers() == Modifier.PUBLIC);
                String kinds = Arrays.stream(m.getParameterTypes()).map(Class::getName)
                        .collect(Collectors.joining(", "));
                got.add(m.getReturnType() + " " + m.getName() + "(" + kinds + ")");
            }
        }
        CHECK.that("methods are " + got + ", due are " + want, got.equals(want));
        CHECK.due("how many methods", got.size(), 46);
    }

    private static void constants(Class<?> face) throws Exception {
        String[] names = {"BAD", "NOT", "FULL", "STATE", "WIDE"};
        int[] values = {-1, -2, -3, -5, -6};
        for (int i = 0; i < names.length; i++) {
            CHECK.due(names[i], face.getField(names[i]).getInt(null), values[i]);
            CHECK.that(names[i] + " is an int", face.getField(names[i]).getType() == int.class);
        }
        CHECK.due("NO", face.getField("NO").getLong(null), Long.MIN_VALUE);
        for (Field f : face.getDeclaredFields()) {
            boolean told = f.getName().equals("NO") || Arrays.asList(names).contains(f.getName());
            int open = Modifier.PUBLIC | Modifier.STATIC | Modifier.FINAL;
            CHECK.that(f + " is open", told ? f.getModifiers() == open : Modifier.isPrivate(f.getModifiers()));
        }
    }

    /** No private method bears the name of a public one. */
    private static void names(Class<?> face) {
        TreeSet<String> open = new TreeSet<>();
        for (Method m : face.getDeclaredMethods()) {
            if (Modifier.isPublic(m.getModifiers())) {
                open.add(m.getName());
            }
        }
        ArrayList<Class<?>> all = new ArrayList<>(List.of(face.getDeclaredClasses()));
        for (Class<?> inside : all) {
            CHECK.that(inside + " is static, and not open", Modifier.isStatic(inside.getModifiers())
                    && !Modifier.isPublic(inside.getModifiers()) && !Modifier.isProtected(inside.getModifiers()));
        }
        all.add(face);
        for (Class<?> one : all) {
            for (Method m : one.getDeclaredMethods()) {
                boolean own = Modifier.isPrivate(m.getModifiers()) && !m.isSynthetic();
                CHECK.that(m + " bears a public name", !own || !open.contains(m.getName()));
            }
        }
    }
}
