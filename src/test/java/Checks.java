/** Counts the answers that are not as due; a test ends with finish(). */
final class Checks {
    interface Call {
        void make();
    }

    private static final int MOST_TOLD = 30;
    private static int wrong = 0;
    private static int made = 0;

    private Checks() {
    }

    static void due(String what, long want, long got) {
        made++;
        if (want != got) {
            tell(what + ": answered " + got + ", due is " + want);
        }
    }

    static void due(String what, boolean want, boolean got) {
        due(what, want ? 1 : 0, got ? 1 : 0);
    }

    static void range(String what, Call call) {
        refused(what, IllegalArgumentException.class, call);
    }

    static void state(String what, Call call) {
        refused(what, IllegalStateException.class, call);
    }

    static void index(String what, Call call) {
        refused(what, IndexOutOfBoundsException.class, call);
    }

    /** The class itself, thrown by Hymnwright itself: the machine and the library are not to throw in it. */
    static void refused(String what, Class<? extends RuntimeException> want, Call call) {
        made++;
        String got = "nothing";
        try {
            call.make();
        } catch (RuntimeException e) {
            StackTraceElement[] trace = e.getStackTrace();
            boolean isItsOwn = trace.length > 0 && trace[0].getClassName().startsWith("Hymnwright");
            got = e.getClass().getName() + (isItsOwn ? "" : " of another's throw");
        }
        if (!got.equals(want.getName())) {
            tell(what + ": threw " + got + ", due is " + want.getName());
        }
    }

    private static void tell(String fault) {
        wrong++;
        if (wrong <= MOST_TOLD) {
            System.out.println(fault);
        }
    }

    static void finish() {
        System.out.println(made + " checks, " + wrong + " wrong");
        if (wrong != 0) {
            System.exit(1);
        }
    }
}
