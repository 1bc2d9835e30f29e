/** Compares answers with those that are due, and counts those that are not as due. */
final class Check {
    interface Call {
        void run();
    }

    private static int tests;
    private static int looked;
    private static int wrong;
    /** The name of the test that runs, empty if none does. */
    private static String running = "";

    private Check() {
    }

    /** A test of one sentence: its name begins with the number of the promise, and tells the sentence. */
    static void test(String name, Call body) {
        tests++;
        running = name + " - ";
        try {
            body.run();
        } catch (RuntimeException thrown) {
            note("the test itself", false, "threw " + thrown);
        }
        running = "";
    }

    static void same(String what, long got, long due) {
        note(what, got == due, "answered " + got + ", due is " + due);
    }

    static void same(String what, double got, double due) {
        note(what, got == due, "answered " + got + ", due is " + due);
    }

    static void same(String what, String got, String due) {
        note(what, got.equals(due), "answered " + got + ", due is " + due);
    }

    static void yes(String what, boolean got) {
        note(what, got, "answered false, due is true");
    }

    static void no(String what, boolean got) {
        note(what, !got, "answered true, due is false");
    }

    /** There is no such artefact, program, release, train or experiment. */
    static void noSuch(String what, Call call) {
        isThrown(what, call, IndexOutOfBoundsException.class);
    }

    /** Another argument is out of its range. */
    static void badArgument(String what, Call call) {
        isThrown(what, call, IllegalArgumentException.class);
    }

    static void badState(String what, Call call) {
        isThrown(what, call, IllegalStateException.class);
    }

    static void isThrown(String what, Call call, Class<? extends RuntimeException> due) {
        RuntimeException got = null;
        try {
            call.run();
        } catch (RuntimeException thrown) {
            got = thrown;
        }
        note(what, got != null && isByTheHouse(got) && got.getClass() == due, "threw " + got + ", due is " + due);
    }

    /** The machine and the library throw some of the same classes: what counts is who has thrown it. */
    static boolean isByTheHouse(RuntimeException thrown) {
        StackTraceElement[] trace = thrown.getStackTrace();
        if (trace.length == 0) {
            return false;
        }
        String by = trace[0].getClassName();
        return by.equals("ReleaseHouse") || by.startsWith("ReleaseHouse$");
    }

    private static void note(String what, boolean isRight, String otherwise) {
        looked++;
        if (!isRight) {
            wrong++;
            System.out.println(running + what + ": " + otherwise);
        }
    }

    static void finish() {
        String inTests = tests > 0 ? " in " + tests + " tests" : "";
        System.out.println(looked + " answers looked at" + inTests + ", " + wrong + " of them wrong");
        if (wrong != 0) {
            System.exit(1);
        }
    }
}
