/** Counts wrong answers of a test, and tells them. */
final class Check {
    /** A call that may throw. */
    interface Call {
        void run();
    }

    private static final int MOST_TOLD = 40;

    private static String passage = "";
    private static int wrong;
    private static int checked;

    private Check() {
    }

    /** Says for which promise, or which passage of "Terms", the answers behind it are looked at. */
    static void about(String text) {
        passage = text;
    }

    static void same(String what, long got, long due) {
        checked++;
        if (got != due) {
            fail(what + " answered " + got + ", due is " + due);
        }
    }

    static void same(String what, boolean got, boolean due) {
        same(what, got ? 1 : 0, due ? 1 : 0);
    }

    static void same(String what, double got, double due) {
        checked++;
        if (got != due) {
            fail(what + " answered " + got + ", due is " + due);
        }
    }

    /** The call throws exactly this exception, and the object's digest stays. */
    static void refuses(String what, LampLighters x, Class<? extends RuntimeException> due, Call call) {
        long before = x.digest();
        checked++;
        try {
            call.run();
            fail(what + " threw nothing, due is " + due.getSimpleName());
        } catch (RuntimeException e) {
            if (e.getClass() != due) {
                fail(what + " threw " + e.getClass().getSimpleName() + ", due is " + due.getSimpleName());
            }
        }
        same(what + " leaves the digest", x.digest(), before);
    }

    private static void fail(String text) {
        wrong++;
        if (wrong <= MOST_TOLD) {
            System.out.println("wrong: " + (passage.isEmpty() ? "" : passage + " | ") + text);
        }
    }

    /** Ends the test, with exit code 1 if an answer was wrong. */
    static void end() {
        System.out.println(checked + " answers looked at, " + wrong + " wrong");
        if (wrong != 0) {
            System.exit(1);
        }
    }
}
