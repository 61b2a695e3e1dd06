/** Compares answers with those that are due; a test closes with exit code 1 if one was wrong. */
final class Check {
    static final Class<IndexOutOfBoundsException> INDEX = IndexOutOfBoundsException.class;
    static final Class<IllegalArgumentException> ARGUMENT = IllegalArgumentException.class;
    static final Class<IllegalStateException> STATE = IllegalStateException.class;
    static final Class<UnsupportedOperationException> UNSUPPORTED =
            UnsupportedOperationException.class;

    private static int made = 0;
    private static int wrong = 0;

    private Check() {
    }

    static void due(String call, Object want, Object got) {
        made++;
        if (!want.equals(got)) {
            wrong++;
            System.out.println(call + " answered " + got + ", due is " + want);
        }
    }

    /** The call must throw just this exception, and leave the object as it was. */
    static void refused(String call, Class<? extends RuntimeException> want, BranchedPast past,
            Runnable made) {
        String before = Snapshot.of(past);
        Object got = "nothing thrown";
        try {
            made.run();
        } catch (RuntimeException thrown) {
            got = thrown.getClass();
        }
        due(call, want, got);
        due(call + " changes nothing", before, Snapshot.of(past));
    }

    static void end(String test) {
        System.out.println(test + ": " + made + " answers, " + wrong + " wrong");
        if (wrong != 0 || made == 0) {
            System.exit(1);
        }
    }
}
