/** Compares what calls answer with what is due, prints what differs, and ends a test with code 1 if anything did. */
final class Check {
    interface Call {
        void run();
    }

    private static int checks = 0;
    private static int wrong = 0;

    private Check() {
    }

    static void same(String call, long got, long due) {
        note(got == due, call + " answered " + got + ", due is " + due);
    }

    static void same(String call, boolean got, boolean due) {
        note(got == due, call + " answered " + got + ", due is " + due);
    }

    static void noSuch(String call, Call made) {
        throwsJust(IndexOutOfBoundsException.class, call, made);
    }

    static void notAsTold(String call, Call made) {
        throwsJust(IllegalArgumentException.class, call, made);
    }

    static void notNow(String call, Call made) {
        throwsJust(IllegalStateException.class, call, made);
    }

    /** The very class is asked for: what the machine throws for an index is a class below it. */
    private static void throwsJust(Class<?> due, String call, Call made) {
        Class<?> got = null;
        try {
            made.run();
        } catch (RuntimeException thrown) {
            got = thrown.getClass();
        }
        note(got == due, call + " threw " + got + ", due is " + due);
    }

    static void note(boolean right, String text) {
        checks++;
        if (!right) {
            wrong++;
            System.out.println(text);
        }
    }

    static void end() {
        System.out.println(checks + " checks, " + wrong + " not as due");
        if (wrong != 0) {
            System.exit(1);
        }
    }
}
