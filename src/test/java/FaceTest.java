import java.io.IOException;
import java.lang.reflect.Array;
import java.lang.reflect.Field;
import java.lang.reflect.Method;
import java.lang.reflect.Modifier;
import java.nio.charset.StandardCharsets;
import java.nio.file.Files;
import java.nio.file.Path;
import java.util.ArrayList;
import java.util.Arrays;
import java.util.Collections;
import java.util.IdentityHashMap;
import java.util.List;
import java.util.Set;
import java.util.TreeSet;

/** The public face is the document's and no more, and an object stays small, also after its calls. */
final class FaceTest {
    private static final String IAE = " throws IllegalArgumentException";
    private static final String ISE = " throws IllegalStateException";
    private static final String BOTH = IAE + ", IllegalStateException";
    private static final String[] FACE = {"int coding(int, int, int, int)" + BOTH, "int run(int, int, int)" + BOTH,
        "int popular(int, int, int, int)" + BOTH, "int number(int)" + ISE, "int clear()", "int row(int)",
        "int cost(int)" + IAE, "int pack(int)" + BOTH, "int unpack(int, int)" + IAE, "int place()",
        "int best(int, int)" + IAE, "int bestRun()", "int chosen(int)" + IAE, "int feed(int)" + ISE,
        "void end(int)" + IAE, "int seek(int)" + IAE, "int tape(int)", "int way(int, int)" + IAE,
        "int about(int)" + IAE};
    /** With 512 objects of this size the room of 7.3 million is not full. */
    private static final int MOST_ELEMENTS = 14000;
    private static final Check check = new Check();

    private FaceTest() {
    }

    public static void main(String[] args) throws IOException, IllegalAccessException {
        face();
        privateNames();
        words();
        size();
        check.finish();
    }

    private static void face() {
        check.topic("the face");
        Class<?> c = BandMill.class;
        check.due("the class", Modifier.toString(c.getModifiers()), "public final");
        check.due("constructors", c.getDeclaredConstructors().length + " " + c.getConstructors().length, "1 1");
        check.due("its parameters", c.getConstructors()[0].getParameterCount(), 0);
        Set<String> methods = new TreeSet<>();
        for (Method m : c.getDeclaredMethods()) {
            if (!Modifier.isPrivate(m.getModifiers())) {
                check.due(m.getName(), Modifier.toString(m.getModifiers()), "public");
                methods.add(m.getReturnType() + " " + m.getName() + "(" + names(m.getParameterTypes()) + ")"
                        + (m.getExceptionTypes().length == 0 ? "" : " throws " + names(m.getExceptionTypes())));
            }
        }
        check.due("methods", methods, new TreeSet<>(List.of(FACE)));
        List<String> fields = new ArrayList<>();
        for (Field f : c.getDeclaredFields()) {
            if (!Modifier.isPrivate(f.getModifiers())) {
                fields.add(Modifier.toString(f.getModifiers()) + " " + f.getType() + " " + f.getName());
            }
        }
        check.due("fields", fields, List.of("public static final int NONE"));
    }

    private static String names(Class<?>[] types) {
        return String.join(", ", Arrays.stream(types).map(Class::getSimpleName).toList());
    }

    private static void privateNames() {
        check.topic("rule 1");
        Set<String> face = new TreeSet<>();
        for (Method m : BandMill.class.getMethods()) {
            face.add(m.getName());
        }
        List<Class<?>> classes = new ArrayList<>(List.of(BandMill.class.getDeclaredClasses()));
        classes.add(BandMill.class);
        for (Class<?> c : classes) {
            for (Method m : c.getDeclaredMethods()) {
                if (!Modifier.isPublic(m.getModifiers())) {
                    check.due(c.getName() + "." + m.getName(), face.contains(m.getName()), false);
                }
            }
            check.due(c + " is static or the face", c == BandMill.class || Modifier.isStatic(c.getModifiers()), true);
            for (Field f : c.getDeclaredFields()) {
                if (Modifier.isStatic(f.getModifiers())) {
                    check.due(f + " is final", Modifier.isFinal(f.getModifiers()), true);
                }
            }
        }
        check.due("at most twelve classes", classes.size() <= 12, true);
    }

    /** A few words that the program's language leaves out. */
    private static void words() throws IOException {
        check.topic("LANGUAGE.md");
        String text = Files.readString(Path.of("src/main/java/BandMill.java"), StandardCharsets.US_ASCII);
        for (String word : List.of("->", "::", "import ", "package ", "finally", "synchronized", "assert ", "try ",
                "hashCode", "toString", "protected ", "Exact(", "record ")) {
            check.due("'" + word + "' in the source", text.contains(word), false);
        }
    }

    private static void size() throws IllegalAccessException {
        check.topic("the room");
        BandMill x = new BandMill();
        long[] made = count(x);
        check.due("a new object is small: " + made[1], made[1] <= MOST_ELEMENTS, true);
        x.coding(5, 64, 1, 1);
        x.popular(50, 0, 0, 0);
        x.popular(50, 1, 1, 1);
        long[] before = count(x);
        for (int i = 0; i < 300; i++) {
            x.number(i / 3);
            x.cost(2);
            x.best(0, 2);
            x.bestRun();
        }
        x.pack(2);
        x.unpack(2, 300);
        long[] after = count(x);
        check.due("calls keep no objects", after[0], before[0]);
        check.due("calls keep no elements", after[1], before[1]);
    }

    /** All objects that one keeps, and their fields and elements. */
    private static long[] count(Object root) throws IllegalAccessException {
        Set<Object> seen = Collections.newSetFromMap(new IdentityHashMap<>());
        List<Object> open = new ArrayList<>(List.of(root));
        long elements = 0;
        while (!open.isEmpty()) {
            Object o = open.remove(open.size() - 1);
            if (seen.add(o)) {
                elements += o.getClass().isArray() ? visitArray(o, open) : visitFields(o, open);
            }
        }
        return new long[] {seen.size(), elements};
    }

    private static int visitArray(Object o, List<Object> open) {
        int length = Array.getLength(o);
        for (int i = 0; i < length && !o.getClass().getComponentType().isPrimitive(); i++) {
            if (Array.get(o, i) != null) {
                open.add(Array.get(o, i));
            }
        }
        return length;
    }

    private static int visitFields(Object o, List<Object> open) throws IllegalAccessException {
        int fields = 0;
        for (Class<?> c = o.getClass(); c != Object.class; c = c.getSuperclass()) {
            for (Field f : c.getDeclaredFields()) {
                if (Modifier.isStatic(f.getModifiers())) {
                    continue;
                }
                fields++;
                f.setAccessible(true);
                if (!f.getType().isPrimitive() && f.get(o) != null) {
                    open.add(f.get(o));
                }
            }
        }
        return fields;
    }
}
