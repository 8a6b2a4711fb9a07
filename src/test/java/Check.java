/** Counts what is not as due, prints it, and ends the test with it. */
final class Check {
    /** A call that may throw. */
    interface Call {
        void run();
    }

    private static int wrong = 0;
    private static int checks = 0;
    private static String about = "";

    private Check() {
    }

    /** Of what the checks are that follow: it is printed ahead of what is wrong. */
    static void about(String what) {
        about = what + ": ";
    }

    static int checks() {
        return checks;
    }

    static void is(String what, long got, long want) {
        checks++;
        if (got != want) {
            tell(what + ": got " + got + ", due is " + want);
        }
    }

    static void is(String what, boolean got, boolean want) {
        is(what, got ? 1L : 0L, want ? 1L : 0L);
    }

    static void is(String what, String got, String want) {
        checks++;
        if (!got.equals(want)) {
            tell(what + ": got " + got + ", due is " + want);
        }
    }

    /** The very class counts: what the machine throws is of a class below the one that is due. */
    static void fails(String what, Class<? extends RuntimeException> due, Call call) {
        checks++;
        try {
            call.run();
            tell(what + ": throws nothing, due is " + due.getSimpleName());
        } catch (RuntimeException thrown) {
            if (thrown.getClass() != due) {
                tell(what + ": throws " + thrown.getClass().getName() + ", due is " + due.getSimpleName());
            }
        }
    }

    static void noIndex(String what, Call call) {
        fails(what, IndexOutOfBoundsException.class, call);
    }

    static void noArgument(String what, Call call) {
        fails(what, IllegalArgumentException.class, call);
    }

    static void noState(String what, Call call) {
        fails(what, IllegalStateException.class, call);
    }

    private static void tell(String text) {
        wrong++;
        System.out.println("  " + about + text);
    }

    static void end(String name) {
        System.out.println(name + ": " + checks + " checks, " + wrong + " wrong");
        if (wrong != 0 || checks == 0) {
            System.exit(1);
        }
    }
}
