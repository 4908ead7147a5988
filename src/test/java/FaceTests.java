import java.io.IOException;
import java.lang.reflect.Constructor;
import java.lang.reflect.Field;
import java.lang.reflect.InvocationTargetException;
import java.lang.reflect.Method;
import java.lang.reflect.Modifier;
import java.nio.file.Files;
import java.nio.file.Path;
import java.util.ArrayList;
import java.util.Arrays;
import java.util.List;
import java.util.Set;
import java.util.TreeSet;

/** The public face as the document has it, whatever the arguments are, and the rules of the source. */
public final class FaceTests {
    private static final String INDEX = " IndexOutOfBoundsException";
    private static final String ARGUMENT = " IllegalArgumentException";
    private static final String STATE = " IllegalStateException";
    private static final List<String> FACE = List.of(
            "int request 4" + ARGUMENT + STATE, "int bring 2" + INDEX, "int send 3" + INDEX + ARGUMENT,
            "int late 1" + INDEX, "int ask 2" + INDEX + ARGUMENT, "int reply 2" + INDEX, "boolean lie 1" + INDEX,
            "int certify 5" + INDEX + STATE + ARGUMENT, "void askFor 2" + INDEX + STATE + ARGUMENT,
            "void replyWith 3" + INDEX + STATE, "int state 2" + INDEX + ARGUMENT, "int history 2" + INDEX,
            "int message 3" + INDEX + ARGUMENT, "int row 2" + ARGUMENT, "int told 2" + INDEX + ARGUMENT,
            "int result 2" + INDEX);
    private static final int[] EDGES = {Integer.MIN_VALUE, -1, 0, 1, 2, 3, 4, 30, 31, 60, 101, 201, 601,
        Integer.MAX_VALUE};

    public static void main(String[] args) throws IOException, IllegalAccessException {
        face();
        members();
        hostile(new CountedHouse());
        hostile(full());
        hostile(opened());
        source();
        Check.end("FaceTests");
    }

    private static String told(Method m) {
        StringBuilder s = new StringBuilder(m.getReturnType() + " " + m.getName() + " " + m.getParameterCount());
        for (Class<?> e : m.getExceptionTypes()) {
            s.append(' ').append(e.getSimpleName());
        }
        return s.toString();
    }

    private static void face() {
        Set<String> got = new TreeSet<>();
        for (Method m : CountedHouse.class.getDeclaredMethods()) {
            if (!Modifier.isPrivate(m.getModifiers())) {
                got.add(told(m));
                Check.yes("public: " + m, Modifier.isPublic(m.getModifiers()) && !Modifier.isStatic(m.getModifiers()));
            }
        }
        for (String line : FACE) {
            Check.yes("the face has " + line, got.remove(line));
        }
        Check.yes("the face has no more: " + got, got.isEmpty());
        Check.yes("final", Modifier.isFinal(CountedHouse.class.getModifiers()));
        Check.yes("public", Modifier.isPublic(CountedHouse.class.getModifiers()));
    }

    private static void members() throws IllegalAccessException {
        Constructor<?>[] made = CountedHouse.class.getDeclaredConstructors();
        Check.eq("constructors", made.length, 1);
        Check.yes("constructor", Modifier.isPublic(made[0].getModifiers()) && made[0].getParameterCount() == 0);
        for (Field f : CountedHouse.class.getDeclaredFields()) {
            boolean none = f.getName().equals("NONE");
            Check.yes("field " + f, none == Modifier.isPublic(f.getModifiers())
                    && none != Modifier.isPrivate(f.getModifiers()));
            if (none) {
                Check.eq("NONE", f.getInt(null), -1);
            }
        }
        List<Class<?>> all = new ArrayList<>(List.of(CountedHouse.class.getDeclaredClasses()));
        Check.yes("at most twelve classes", all.size() < 12);
        for (Class<?> c : all) {
            int how = c.getModifiers();
            Check.yes("class inside " + c, Modifier.isStatic(how) && !Modifier.isPublic(how)
                    && !Modifier.isProtected(how));
            for (Method m : c.getDeclaredMethods()) {
                Check.no("name of the face: " + m, isOfFace(m.getName()));
            }
        }
        all.add(CountedHouse.class);
        for (Class<?> c : all) {
            int fields = 0;
            for (Field f : c.getDeclaredFields()) {
                boolean isStatic = Modifier.isStatic(f.getModifiers());
                fields += isStatic ? 0 : 1;
                Check.yes("static is final: " + f, !isStatic || Modifier.isFinal(f.getModifiers()));
            }
            Check.yes("at most twenty fields: " + c, fields <= 20);
            for (Method m : c.getDeclaredMethods()) {
                Check.yes("at most seven parameters: " + m, m.getParameterCount() <= 7);
            }
        }
    }

    private static boolean isOfFace(String name) {
        for (String line : FACE) {
            if (line.split(" ")[1].equals(name)) {
                return true;
            }
        }
        return false;
    }

    /** All places taken: REQUESTS, MESSAGES of the liar and of the one that READ them. */
    private static CountedHouse full() {
        CountedHouse h = new CountedHouse();
        for (int i = 0; i < 60; i++) {
            h.request(i % 4, 2, i % 4, i);
        }
        h.lie(0);
        for (int k = 1; k <= 100; k++) {
            h.certify(0, 0, 0, k % 60, 0);
            h.send(0, k, 1);
        }
        return h;
    }

    private static CountedHouse opened() {
        CountedHouse h = new CountedHouse();
        h.request(0, 1, 0, 5);
        h.bring(0, 0);
        h.send(0, 1, 1);
        h.late(1);
        h.late(2);
        h.ask(1, 2);
        h.ask(2, 1);
        h.send(2, 1, 1);
        h.lie(2);
        return h;
    }

    private static void hostile(CountedHouse h) throws IllegalAccessException {
        for (Method m : CountedHouse.class.getDeclaredMethods()) {
            if (Modifier.isPublic(m.getModifiers())) {
                hostile(h, m, new Object[m.getParameterCount()], 0);
            }
        }
    }

    private static void hostile(CountedHouse h, Method m, Object[] given, int at) throws IllegalAccessException {
        if (at < given.length) {
            // Five arguments of all edges would be half a million calls: the first ones go by fewer.
            int step = given.length == 5 && at > 1 ? 3 : 1;
            for (int i = 0; i < EDGES.length; i += step) {
                given[at] = EDGES[i];
                hostile(h, m, given, at + 1);
            }
            return;
        }
        try {
            m.invoke(h, given);
        } catch (InvocationTargetException e) {
            Class<?> got = e.getCause().getClass();
            boolean isDue = Arrays.asList(m.getExceptionTypes()).contains(got);
            if (!isDue) {
                Check.yes(m.getName() + Arrays.toString(given) + " threw " + e.getCause(), false);
            }
        }
    }

    private static void source() throws IOException {
        String text = Files.readString(Path.of("src/main/java/CountedHouse.java"));
        for (String word : List.of("package ", "import ", "catch", "try {", "finally", "->", "::", "synchronized",
                "assert ", "hashCode", "toString", "instanceof", "volatile", "native ", "Random", "System.out")) {
            Check.no("the source has " + word, text.contains(word));
        }
        for (int i = 0; i < text.length(); i++) {
            if (text.charAt(i) > 126) {
                Check.eq("a sign of the source", text.charAt(i), 126);
            }
        }
    }
}
