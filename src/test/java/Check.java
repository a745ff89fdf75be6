/** Counts the answers that are not as due; a test ends with end(), which tells them by its exit code. */
final class Check {
    /** A call whose answer does not matter. */
    interface Call {
        void make();
    }

    static final Class<? extends RuntimeException> INDEX = IndexOutOfBoundsException.class;
    static final Class<? extends RuntimeException> ARGUMENT = IllegalArgumentException.class;
    static final Class<? extends RuntimeException> STATE = IllegalStateException.class;

    private static int wrong = 0;

    private Check() {
    }

    static void due(String what, long got, long want) {
        if (got != want) {
            fail(what + " answered " + got + ", due is " + want);
        }
    }

    static void dueExactly(String what, double got, double want) {
        if (!(got == want)) {
            fail(what + " answered " + got + ", due is " + want);
        }
    }

    /** The call throws just that, and the land digests as before. */
    static void dueThrown(String what, WheatRun land, Class<? extends RuntimeException> kind, Call call) {
        long before = land.digest();
        String got = "nothing";
        try {
            call.make();
        } catch (RuntimeException e) {
            got = e.getClass().getSimpleName();
            dueOwnThrow(what, e);
        }
        if (!got.equals(kind.getSimpleName())) {
            fail(what + " threw " + got + ", due is " + kind.getSimpleName());
        }
        if (land.digest() != before) {
            fail(what + " threw and changed the land");
        }
    }

    /** The class itself throws, not the library or the machine below it. */
    static void dueOwnThrow(String what, RuntimeException e) {
        StackTraceElement[] frames = e.getStackTrace();
        if (frames.length == 0 || !frames[0].getClassName().equals("WheatRun") || e.getCause() != null) {
            fail(what + " did not throw by itself, but " + e);
        }
    }

    static void fail(String text) {
        wrong++;
        System.out.println(text);
    }

    static void end() {
        if (wrong != 0) {
            System.out.println(wrong + " answers are not as due");
            System.exit(1);
        }
    }
}
