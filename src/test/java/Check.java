/** Compares answers with those that are due; a test ends with exit code 1 if one was wrong. */
final class Check {
    static final Class<IndexOutOfBoundsException> INDEX = IndexOutOfBoundsException.class;
    static final Class<IllegalArgumentException> ARGUMENT = IllegalArgumentException.class;
    static final Class<IllegalStateException> STATE = IllegalStateException.class;
    static final Class<UnsupportedOperationException> UNSUPPORTED =
            UnsupportedOperationException.class;

    /** Behind so many, more lines tell nothing new. */
    private static final int MOST_TOLD = 200;

    private static final long LONGEST_MILLISECONDS = 300_000;

    private static int made = 0;
    private static int wrong = 0;

    static {
        Thread watch = new Thread(Check::stopWhatDoesNotEnd);
        watch.setDaemon(true);
        watch.start();
    }

    /** A call with one of its arguments left open. */
    interface With {
        void call(Memory memory, int argument);
    }

    private Check() {
    }

    /** A call that never ends is a fault, too, and must not hold up the other tests. */
    private static void stopWhatDoesNotEnd() {
        try {
            Thread.sleep(LONGEST_MILLISECONDS);
            System.out.println("FAILED  a test does not end");
            Runtime.getRuntime().halt(1);
        } catch (InterruptedException ended) {
            Thread.currentThread().interrupt();
        }
    }

    static void due(String call, Object want, Object got) {
        made++;
        if (!want.equals(got)) {
            fail(call + " answered " + got + ", due is " + want);
        }
    }

    static void fail(String why) {
        wrong++;
        if (wrong <= MOST_TOLD) {
            System.out.println("    " + why);
        }
    }

    static int wrong() {
        return wrong;
    }

    /** The call must throw just this exception, and leave the object as it was. */
    static void refused(String call, Class<? extends RuntimeException> want, Scene scene,
            Scene refused) {
        due(call, Answer.named(want), Answer.of(refused, scene.past()));
        sameAs(call + " changes nothing", scene,
                scene.then(memory -> Answer.of(refused, memory)));
    }

    /** The call must not throw. */
    static void allowed(String call, Scene scene, Scene allowed) {
        due(call, Answer.NOTHING, Answer.of(allowed, scene.past()));
    }

    /** One below, one above, and what is farthest off: all are refused. */
    static void refusedOutside(String argument, Class<? extends RuntimeException> want, int least,
            int greatest, Scene scene, With with) {
        int[] outside = {least - 1, greatest + 1, Integer.MIN_VALUE, Integer.MAX_VALUE};
        for (int number : outside) {
            refused(argument + " " + number, want, scene, memory -> with.call(memory, number));
        }
    }

    /** All from the least to the greatest are allowed. */
    static void allowedWithin(String argument, int least, int greatest, Scene scene, With with) {
        for (int number = least; number <= greatest; number++) {
            int within = number;
            allowed(argument + " " + number, scene, memory -> with.call(memory, within));
        }
    }

    /** Nothing that can be asked tells the two apart. */
    static void sameAs(String what, Scene want, Scene got) {
        String[] due = Picture.of(want).split("\n");
        String[] seen = Picture.of(got).split("\n");
        due(what + ": lines", due.length, seen.length);
        for (int line = 0; line < Math.min(due.length, seen.length); line++) {
            if (!due[line].equals(seen[line])) {
                due(what, due[line], seen[line]);
                return;
            }
        }
    }

    static void end(String test) {
        System.out.println(test + ": " + made + " answers, " + wrong + " wrong");
        if (wrong != 0 || made == 0) {
            System.exit(1);
        }
    }
}
