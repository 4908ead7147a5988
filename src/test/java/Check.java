import java.io.IOException;
import java.nio.file.Files;
import java.nio.file.Path;

/** Counts what is not as due; each test's main ends with Check.end(). */
final class Check {
    interface Call {
        void run();
    }

    private static final Path DOCUMENT = Path.of("../shared/DOC.md");
    private static final Path SOURCE = Path.of("src/main/java/CountedHouse.java");

    private static int wrong;
    private static int asked;
    private static int sentences;
    private static String document;

    private Check() {
    }

    static void eq(String what, long got, long due) {
        asked++;
        if (got != due) {
            wrong++;
            if (wrong <= 40) {
                System.out.println(what + ": answered " + got + ", due is " + due);
            }
        }
    }

    static void yes(String what, boolean got) {
        eq(what, got ? 1 : 0, 1);
    }

    static void no(String what, boolean got) {
        eq(what, got ? 1 : 0, 0);
    }

    /** The class itself, not one below it: ArrayIndexOutOfBoundsException would be the machine's own. */
    static void refuses(String what, Class<? extends RuntimeException> due, Call call) {
        asked++;
        String got = "nothing";
        try {
            call.run();
        } catch (RuntimeException e) {
            got = e.getClass().getName();
        }
        if (!got.equals(due.getName())) {
            wrong++;
            System.out.println(what + ": threw " + got + ", due is " + due.getName());
        }
    }

    /**
     * A test that stands for one sentence of the document. The words must stand there as they are
     * cited, so that a test whose ground was changed is seen.
     */
    static void sentence(String words, Call test) {
        sentences++;
        yes("stands in the document: " + words, documentText().contains(words));
        int before = wrong;
        try {
            test.run();
        } catch (RuntimeException e) {
            wrong++;
            System.out.println("threw " + e + " at " + e.getStackTrace()[0]);
        }
        if (wrong != before) {
            System.out.println("-- does not hold: " + words);
        }
    }

    static String documentText() {
        if (document == null) {
            document = textOf(DOCUMENT);
        }
        return document;
    }

    static String sourceText() {
        return textOf(SOURCE);
    }

    /** With one blank between words, however the lines are broken; none if there is no such file. */
    private static String textOf(Path path) {
        try {
            return Files.readString(path).replaceAll("\\s+", " ");
        } catch (IOException e) {
            System.out.println("nothing at " + path);
            return "";
        }
    }

    static int wrongSoFar() {
        return wrong;
    }

    static void end(String name) {
        if (sentences > 0) {
            System.out.println(name + ": " + sentences + " sentences of the document");
        }
        System.out.println(name + ": " + asked + " answers looked at, " + wrong + " not as due");
        if (wrong != 0) {
            System.exit(1);
        }
    }
}
