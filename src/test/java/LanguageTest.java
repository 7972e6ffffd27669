import java.lang.reflect.Array;
import java.lang.reflect.Constructor;
import java.lang.reflect.Field;
import java.lang.reflect.Method;
import java.lang.reflect.Modifier;
import java.nio.file.Files;
import java.nio.file.Path;
import java.util.Arrays;
import java.util.IdentityHashMap;
import java.util.List;
import java.util.Map;
import java.util.Set;
import java.util.TreeSet;

/** The public face of the document, and those rules of LANGUAGE.md that can be seen in the file and its classes. */
public final class LanguageTest {
    private static final Checks checks = new Checks();
    private static final Set<String> FACE = new TreeSet<>(List.of("int feed(int, int, int, int, int)", "boolean end(int)",
        "int load()", "int faultAt()", "int size(int)", "int height(int)", "boolean input(int)", "int run(int)",
        "int steps()", "int place()", "int thrown()", "int made(int)", "int written()", "int out(int)", "int strays()"));

    public static void main(String[] args) throws Exception {
        face();
        insideClasses();
        words();
        room();
        checks.finish("LanguageTest");
    }

    private static String told(Method m) {
        StringBuilder types = new StringBuilder();
        for (Class<?> t : m.getParameterTypes()) {
            types.append(types.length() > 0 ? ", " : "").append(t.getName());
        }
        return m.getReturnType().getName() + " " + m.getName() + "(" + types + ")";
    }

    private static void face() {
        Set<String> open = new TreeSet<>();
        for (Method m : ObjectMachine.class.getDeclaredMethods()) {
            if (!Modifier.isPrivate(m.getModifiers())) {
                open.add(told(m));
                checks.due(m + " is public", Modifier.isPublic(m.getModifiers()) && !Modifier.isStatic(m.getModifiers()), true);
            } else {
                checks.due("private " + m.getName(), FACE.stream().anyMatch(f -> f.contains(" " + m.getName() + "(")), false);
            }
        }
        checks.due("the methods " + open, open.equals(FACE), true);
        for (Field f : ObjectMachine.class.getDeclaredFields()) {
            checks.due("private field " + f, Modifier.isPrivate(f.getModifiers()), true);
        }
        Constructor<?>[] made = ObjectMachine.class.getDeclaredConstructors();
        checks.due("constructors", made.length, 1);
        checks.due("its parameters", made[0].getParameterCount(), 0);
        checks.due("final", Modifier.isFinal(ObjectMachine.class.getModifiers()), true);
    }

    private static void insideClasses() {
        Class<?>[] inside = ObjectMachine.class.getDeclaredClasses();
        checks.due("at most some twelve classes", inside.length <= 12, true);
        for (Class<?> c : inside) {
            checks.due(c + " is static and private", Modifier.isStatic(c.getModifiers()) && Modifier.isPrivate(c.getModifiers()), true);
            long fields = Arrays.stream(c.getDeclaredFields()).filter(f -> !Modifier.isStatic(f.getModifiers())).count();
            checks.due("at most some twenty fields in " + c, fields <= 20, true);
            for (Method m : c.getDeclaredMethods()) {
                checks.due("at most seven parameters of " + m, m.getParameterCount() <= 7, true);
                checks.due(m + " has no name of the face", FACE.stream().anyMatch(f -> f.contains(" " + m.getName() + "(")), false);
            }
            for (Field f : c.getDeclaredFields()) {
                checks.due(f + " is no static state", !Modifier.isStatic(f.getModifiers()) || Modifier.isFinal(f.getModifiers()), true);
            }
        }
    }

    private static void words() throws Exception {
        String source = Files.readString(Path.of("src/main/java/ObjectMachine.java"));
        String plain = source.replaceAll("(?s)/\\*.*?\\*/", " ").replaceAll("//[^\n]*", " ")
            .replaceAll("\"[^\"\n]*\"", "\"\"").replaceAll("'[^'\n]*'", "' '");
        Set<String> found = new TreeSet<>(List.of(plain.split("[^A-Za-z0-9_]+")));
        for (String word : ("throw throws try catch finally synchronized assert package protected instanceof record enum "
            + "interface float double Object Exception Thread Random Math Integer").split(" ")) {
            boolean allowed = word.equals("Integer");
            checks.due("the word " + word, found.contains(word) && !allowed, false);
        }
        checks.due("no lambda", plain.contains("->") || plain.contains("::"), false);
        checks.due("no joining of texts", plain.contains("\" +") || plain.contains("+ \""), false);
        checks.due("public only in the face", plain.split("\\bpublic\\b", -1).length - 1, FACE.size() + 2);
        for (String line : plain.split("\n")) {
            if (line.startsWith("import")) {
                checks.due(line, line.equals("import java.util.Arrays;"), true);
            }
        }
    }

    /** A run of calls has room for some 7.3 million fields and elements: forty machines, after their calls too, take less. */
    private static void room() throws Exception {
        ObjectMachine x = new ObjectMachine();
        long before = cellsOf(x, new IdentityHashMap<>());
        Checks.give(x, Checks.main(0, "a : push 300 array int pop new Main pop b : goto a c : pop back catch a b c Error"));
        x.load();
        x.run(20000);
        checks.due("cells of a machine", before > 0 && before <= 7300000 / 40, true);
        checks.due("cells of a machine after a run", cellsOf(x, new IdentityHashMap<>()), before);
    }

    /** The fields and elements of an object of the program and of all that it holds, each counted once. */
    private static long cellsOf(Object o, Map<Object, Boolean> seen) throws Exception {
        if (o == null || o instanceof String || seen.put(o, true) != null) {
            return 0;
        }
        if (o.getClass().isArray()) {
            return Array.getLength(o);
        }
        long cells = 0;
        for (Field f : o.getClass().getDeclaredFields()) {
            if (!Modifier.isStatic(f.getModifiers())) {
                f.setAccessible(true);
                cells += 1 + (f.getType().isPrimitive() ? 0 : cellsOf(f.get(o), seen));
            }
        }
        return cells;
    }
}
