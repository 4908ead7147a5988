import java.io.IOException;
import java.lang.reflect.InvocationTargetException;
import java.lang.reflect.Method;
import java.nio.file.Files;
import java.nio.file.Path;
import java.util.Set;
import java.util.TreeSet;
import java.util.regex.Matcher;
import java.util.regex.Pattern;

/** Runs the examples of README.md: each call must answer what is written behind it. */
public final class ReadmeTests {
    private static final String FIRST = "CountedHouse house = new CountedHouse();";
    private static final Pattern CALL = Pattern.compile(
            "house\\.(\\w+)\\(([-0-9, ]*)\\);\\s+// (throws \\w+|true|false|nothing|-?\\d+): .*");

    private static CountedHouse house;
    private static final Set<String> used = new TreeSet<>();

    public static void main(String[] args) throws IOException, IllegalAccessException {
        boolean inside = false;
        int examples = 0;
        for (String line : Files.readAllLines(Path.of("README.md"))) {
            if (line.startsWith("```")) {
                inside = line.equals("```java");
                examples += inside ? 1 : 0;
                house = null;
            } else if (inside) {
                run(line);
            }
        }
        Check.eq("examples", examples, 3);
        for (Method m : CountedHouse.class.getDeclaredMethods()) {
            if (java.lang.reflect.Modifier.isPublic(m.getModifiers())) {
                Check.yes("an example shows " + m.getName(), used.contains(m.getName()));
            }
        }
        Check.end("ReadmeTests");
    }

    private static void run(String line) throws IllegalAccessException {
        if (line.equals(FIRST)) {
            house = new CountedHouse();
            return;
        }
        Matcher m = CALL.matcher(line);
        boolean isCall = m.matches() && house != null;
        Check.yes("a call with its answer: " + line, isCall);
        if (isCall) {
            used.add(m.group(1));
            String got = answer(m.group(1), m.group(2).split(", "));
            Check.yes(line + " -- answered " + got, got.equals(m.group(3)));
        }
    }

    private static String answer(String name, String[] given) throws IllegalAccessException {
        Object[] numbers = new Object[given.length];
        for (int i = 0; i < given.length; i++) {
            numbers[i] = Integer.valueOf(given[i]);
        }
        for (Method m : CountedHouse.class.getDeclaredMethods()) {
            if (m.getName().equals(name) && m.getParameterCount() == given.length) {
                try {
                    Object got = m.invoke(house, numbers);
                    return got == null ? "nothing" : got.toString();
                } catch (InvocationTargetException e) {
                    return "throws " + e.getCause().getClass().getSimpleName();
                }
            }
        }
        return "no such call";
    }
}
