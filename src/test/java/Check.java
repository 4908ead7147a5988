/** Counts what is not as due; each test's main ends with Check.end(). */
final class Check {
    interface Call {
        void run();
    }

    interface Answer {
        long get();
    }

    private static int wrong;
    private static int asked;

    private Check() {
    }

    static void eq(String what, long got, long due) {
        asked++;
        if (got != due) {
            wrong++;
            if (wrong <= 40) {
                System.out.println(what + ": answered " + got + ", due is " + due);
            }
        }
    }

    static void yes(String what, boolean got) {
        eq(what, got ? 1 : 0, 1);
    }

    static void no(String what, boolean got) {
        eq(what, got ? 1 : 0, 0);
    }

    /** The class itself, not one below it: ArrayIndexOutOfBoundsException would be the machine's own. */
    static void refuses(String what, Class<? extends RuntimeException> due, Call call) {
        asked++;
        String got = "nothing";
        try {
            call.run();
        } catch (RuntimeException e) {
            got = e.getClass().getName();
        }
        if (!got.equals(due.getName())) {
            wrong++;
            System.out.println(what + ": threw " + got + ", due is " + due.getName());
        }
    }

    static int wrongSoFar() {
        return wrong;
    }

    static void end(String name) {
        System.out.println(name + ": " + asked + " answers looked at, " + wrong + " not as due");
        if (wrong != 0) {
            System.exit(1);
        }
    }
}
