/** The edges of when a branch can be READ, for each call that reads one. */
final class Readable {
    /** Branch 1 leaves 0 at moment 2, branch 2 leaves 1 at moment 4, and the clock is 6. */
    static final Scene FORKED = Scenes.writes(6).then(memory -> {
        memory.branch(0, 2);
        memory.branch(1, 4);
    });

    interface Reading {
        void at(Memory memory, int branch, int moment);
    }

    private Readable() {
    }

    static void edges(Reading reading) {
        onlyWhenItIsOpen(reading);
        notBeforeItsFork(reading);
        notBeforeTheHorizon(reading);
        notAfterTheClock(reading);
    }

    static void notBeforeItsFork(Reading reading) {
        just(0, 0, "a new object", Scenes.NEW, 0, reading);
        just(0, 6, "branch 0", FORKED, 0, reading);
        just(2, 6, "branch 1 from its fork", FORKED, 1, reading);
        just(4, 6, "branch 2 from its fork", FORKED, 2, reading);
        Scene atTheClock = FORKED.then(memory -> memory.branch(0, 6));
        just(6, 6, "branch 3, whose fork is the clock", atTheClock, 3, reading);
    }

    static void notAfterTheClock(Reading reading) {
        Scene written = FORKED.then(memory -> memory.write(2, 0, 0, 0, 0));
        just(0, 7, "branch 0 to the new clock", written, 0, reading);
        just(4, 7, "branch 2 to the new clock", written, 2, reading);
        just(0, 120, "120 writes", Scenes.FULL, 0, reading);
    }

    static void notBeforeTheHorizon(Reading reading) {
        Scene trimmed = FORKED.then(memory -> memory.trim(3));
        just(3, 6, "branch 0 from the horizon", trimmed, 0, reading);
        just(3, 6, "branch 1 from the horizon behind its fork", trimmed, 1, reading);
        just(4, 6, "branch 2 from its fork behind the horizon", trimmed, 2, reading);
        Scene toTheClock = FORKED.then(memory -> memory.trim(6));
        just(6, 6, "branch 0 where horizon and clock meet", toTheClock, 0, reading);
        just(6, 6, "branch 1 where horizon and clock meet", toTheClock, 1, reading);
    }

    static void onlyWhenItIsOpen(Reading reading) {
        Scene closed = FORKED.then(memory -> memory.close(1));
        for (int moment = -1; moment <= 7; moment++) {
            int then = moment;
            Check.refused("closed, at " + then, Check.ARGUMENT, closed,
                    memory -> reading.at(memory, 1, then));
        }
        just(4, 6, "the child of a closed branch", closed, 2, reading);
        just(0, 6, "the parent of a closed branch", closed, 0, reading);
    }

    /** The branch can be read from the first moment to the last one, and at no other. */
    private static void just(int first, int last, String what, Scene scene, int branch,
            Reading reading) {
        Check.With with = (memory, moment) -> reading.at(memory, branch, moment);
        Check.allowedWithin(what + " at", first, last, scene, with);
        Check.refusedOutside(what + " at", Check.ARGUMENT, first, last, scene, with);
    }
}
