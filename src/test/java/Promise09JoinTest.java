/** Promise 9: join. */
public final class Promise09JoinTest {
    /** Branches 1 and 2 leave 0 at 4, where field 0 of objects 0 .. 3 is the number 1. */
    private static final Scene FORKED = memory -> {
        for (int object = 0; object < 4; object++) {
            memory.write(0, object, 0, 1, 1);
        }
        memory.branch(0, 4);
        memory.branch(0, 4);
    };

    private Promise09JoinTest() {
    }

    public static void main(String[] args) {
        Sentences promise = new Sentences("Promise 9: join");
        promise.test("Joins the first branch to the second one",
                Promise09JoinTest::joinsTheFirstToTheSecond);
        promise.test("answers how many conflicts there are", Promise09JoinTest::howManyConflicts);
        promise.test("without any, what had to be written is",
                Promise09JoinTest::whatHadToBeWritten);
        promise.test("IndexOutOfBoundsException when there is no such branch",
                Promise09JoinTest::noSuchBranch);
        promise.test("IllegalArgumentException when they are the same",
                Promise09JoinTest::theyAreTheSame);
        promise.test("IllegalStateException when one is not open", Promise09JoinTest::notOpen);
        promise.test("or the meeting is before the horizon",
                Promise09JoinTest::meetingBeforeTheHorizon);
        promise.test("UnsupportedOperationException when there is no conflict, and there would be "
                + "more than 120 writes", Promise09JoinTest::moreThan120Writes);
        promise.term(Sentences.FIRST_NAMED, Promise09JoinTest::firstNamed);
        promise.end();
    }

    /** The same number to field 3 of object 11, again and again, until there are so many writes. */
    private static Scene filledTo(int writes, int branch) {
        return memory -> {
            for (int made = memory.state(2); made < writes; made++) {
                memory.write(branch, 11, 3, 1, 1);
            }
        };
    }

    private static void joinsTheFirstToTheSecond() {
        Past past = FORKED.past();
        past.write(1, 0, 0, 1, 2);
        past.write(1, 1, 0, 0, 0);
        past.write(1, 5, 3, 2, 6);
        past.write(2, 2, 0, 1, 9);
        Check.due("join", 0, past.join(1, 2));
        Check.due("clock", 11, past.state(0));
        Check.due("number", 2, past.read(2, 11, 0, 0, 1));
        Check.due("nothing", 0, past.read(2, 11, 1, 0, 0));
        Check.due("nothing is written", 10, past.read(2, 11, 1, 0, 2));
        Check.due("reference", 2, past.read(2, 11, 5, 3, 0));
        Check.due("to object", 6, past.read(2, 11, 5, 3, 1));
        Check.due("its own stays", 9, past.read(2, 11, 2, 0, 1));
        Check.due("not carried back", 1, past.read(1, 11, 2, 0, 1));
        Check.due("not carried to the parent", 1, past.read(0, 11, 0, 0, 1));
        Check.due("before it", 1, past.read(2, 8, 0, 0, 1));
        Check.due("both are open still", 2, past.about(1, 0) + past.about(2, 0));
        Check.due("writes of 1", 3, past.about(1, 3));
        Check.due("writes of 2", 4, past.about(2, 3));
        Check.due("to the parent", 0, past.join(2, 0));
        Check.due("all four", 8, past.about(0, 3));
    }

    private static void howManyConflicts() {
        Scene scene = FORKED.then(memory -> {
            memory.write(1, 0, 0, 1, 5);
            memory.write(2, 0, 0, 1, 6);
            memory.write(1, 1, 0, 0, 0);
            memory.write(2, 1, 0, 2, 1);
            memory.write(1, 4, 0, 1, 2);
            memory.write(2, 4, 0, 2, 2);
            memory.write(1, 2, 0, 1, 5);
            memory.write(2, 3, 0, 1, 5);
        });
        Check.due("three", 3, scene.past().join(1, 2));
        Check.due("three, turned", 3, scene.past().join(2, 1));
        Check.sameAs("conflicts change nothing", scene, scene.then(memory -> memory.join(1, 2)));
        Check.due("none with the parent", 0, scene.past().join(2, 0));
        Past past = scene.past();
        past.write(2, 0, 0, 1, 5);
        Check.due("two", 2, past.join(1, 2));
        past.write(2, 1, 0, 1, 1);
        Check.due("changed back there", 1, past.join(1, 2));
        past.write(2, 4, 0, 0, 0);
        Check.due("none", 0, past.join(1, 2));
        Check.due("the three fields", 18, past.state(0));
        asManyAsThereCanBe();
    }

    private static void asManyAsThereCanBe() {
        Past past = Scenes.branches(1).past();
        for (int cell = 0; cell < 48; cell++) {
            past.write(0, cell / 4, cell % 4, 1, 0);
            past.write(1, cell / 4, cell % 4, 2, 0);
        }
        Check.due("all fields", 48, past.join(1, 0));
        Check.due("all fields, turned", 48, past.join(0, 1));
        Check.due("nothing is written", 96, past.state(0));
    }

    private static void whatHadToBeWritten() {
        inOrder();
        nothingHadTo();
        allFieldsHadTo();
    }

    private static void inOrder() {
        Past past = FORKED.past();
        past.write(1, 11, 3, 1, 1);
        past.write(1, 4, 2, 1, 2);
        past.write(1, 4, 1, 1, 3);
        Check.due("join to the parent", 0, past.join(1, 0));
        Check.due("first", 8, past.read(0, 10, 4, 1, 2));
        Check.due("second", 9, past.read(0, 10, 4, 2, 2));
        Check.due("third", 10, past.read(0, 10, 11, 3, 2));
        Check.due("the clock", 10, past.state(0));
        Check.due("all are there", 10, past.state(2));
    }

    private static void nothingHadTo() {
        Scene scene = FORKED.then(memory -> {
            memory.write(1, 0, 0, 1, 5);
            memory.write(1, 0, 0, 1, 1);
            memory.write(2, 0, 0, 1, 7);
            memory.write(1, 1, 0, 1, 8);
            memory.write(2, 1, 0, 1, 8);
            memory.write(1, 4, 0, 0, 3);
            memory.write(2, 4, 0, 1, 3);
        });
        Check.due("changed back, the same, never there", 0, scene.past().join(1, 2));
        Check.sameAs("nothing is written", scene, scene.then(memory -> memory.join(1, 2)));
        Check.due("none on a new object", 0, Scenes.branches(1).past().join(0, 1));
        Check.due("none to the child", 0, FORKED.past().join(0, 1));
        Scene joined = FORKED.then(memory -> {
            memory.write(1, 0, 0, 1, 5);
            memory.join(1, 2);
        });
        Check.sameAs("once is enough", joined, joined.then(memory -> memory.join(1, 2)));
    }

    private static void allFieldsHadTo() {
        Past past = Scenes.branches(1).past();
        for (int cell = 47; cell >= 0; cell--) {
            past.write(1, cell / 4, cell % 4, 1, cell);
        }
        Check.due("all fields", 0, past.join(1, 0));
        Check.due("the clock", 96, past.state(0));
        for (int cell = 0; cell < 48; cell++) {
            Check.due("value " + cell, cell, past.read(0, 96, cell / 4, cell % 4, 1));
            Check.due("moment " + cell, 49 + cell, past.read(0, 96, cell / 4, cell % 4, 2));
        }
    }

    private static void noSuchBranch() {
        Check.With from = (memory, branch) -> memory.join(branch, 0);
        Check.allowedWithin("from", 1, 2, FORKED, from);
        Check.refusedOutside("from", Check.INDEX, 0, 2, FORKED, from);
        Check.With to = (memory, branch) -> memory.join(0, branch);
        Check.allowedWithin("to", 1, 2, FORKED, to);
        Check.refusedOutside("to", Check.INDEX, 0, 2, FORKED, to);
    }

    private static void theyAreTheSame() {
        for (int branch = 0; branch < 3; branch++) {
            int same = branch;
            Check.refused("the same: " + branch, Check.ARGUMENT, FORKED,
                    memory -> memory.join(same, same));
        }
        Check.refused("the only one", Check.ARGUMENT, Scenes.NEW, memory -> memory.join(0, 0));
    }

    private static void notOpen() {
        Scene closed = FORKED.then(memory -> {
            memory.write(1, 0, 0, 1, 5);
            memory.write(2, 1, 0, 1, 5);
            memory.close(0);
        });
        Check.refused("the first", Check.STATE, closed, memory -> memory.join(0, 1));
        Check.refused("the second", Check.STATE, closed, memory -> memory.join(1, 0));
        Check.refused("both", Check.STATE, closed.then(memory -> memory.close(1)),
                memory -> memory.join(0, 1));
        Check.due("none of them, but where they meet", 0, closed.past().join(1, 2));
    }

    private static void meetingBeforeTheHorizon() {
        Scene scene = FORKED.then(memory -> {
            memory.write(1, 0, 0, 1, 5);
            memory.write(2, 1, 0, 1, 5);
        });
        Check.due("one behind it", 0, scene.then(memory -> memory.trim(3)).past().join(1, 2));
        Check.due("just at it", 0, scene.then(memory -> memory.trim(4)).past().join(1, 2));
        for (int moment = 5; moment <= 6; moment++) {
            int horizon = moment;
            Scene trimmed = scene.then(memory -> memory.trim(horizon));
            Check.refused("the horizon is " + horizon, Check.STATE, trimmed,
                    memory -> memory.join(1, 2));
            Check.refused("the horizon is " + horizon + ", from the parent", Check.STATE, trimmed,
                    memory -> memory.join(0, 2));
        }
        Scene later = scene.then(memory -> {
            memory.branch(1, 6);
            memory.trim(6);
        });
        Check.due("of a later fork", 0, later.past().join(3, 1));
        Check.refused("of a later fork's parent", Check.STATE, later,
                memory -> memory.join(3, 2));
    }

    private static void moreThan120Writes() {
        Scene two = FORKED.then(memory -> {
            memory.write(1, 0, 0, 1, 2);
            memory.write(1, 1, 0, 1, 2);
        });
        Past past = two.then(filledTo(118, 2)).past();
        Check.due("just enough room", 0, past.join(1, 2));
        Check.due("full", 120, past.state(2));
        Check.due("clock", 120, past.state(0));
        Check.due("nothing to write when full", 0, past.join(1, 2));
        Scene oneTooMany = two.then(filledTo(119, 2));
        Check.refused("one too many", Check.UNSUPPORTED, oneTooMany, memory -> memory.join(1, 2));
        Check.refused("two too many", Check.UNSUPPORTED, two.then(filledTo(120, 2)),
                memory -> memory.join(1, 2));
        Scene conflict = oneTooMany.then(memory -> memory.write(2, 1, 0, 1, 3));
        Check.due("a conflict when full", 1, conflict.past().join(1, 2));
        Check.sameAs("it changes nothing", conflict, conflict.then(memory -> memory.join(1, 2)));
        Past roomy = oneTooMany.then(memory -> memory.trim(0)).past();
        Check.due("no room by a trim that lets nothing go", "throws.UnsupportedOperationException",
                Answer.of(() -> roomy.join(1, 2)));
        Scene allGone = two.then(filledTo(120, 0)).then(memory -> {
            memory.close(0);
            memory.trim(4);
        });
        Check.due("room by a trim", 0, allGone.past().join(1, 2));
    }

    private static void firstNamed() {
        Scene scene = FORKED.then(memory -> {
            memory.write(1, 0, 0, 1, 2);
            memory.close(0);
        }).then(filledTo(120, 2)).then(memory -> memory.trim(4));
        Scene full = scene.then(filledTo(120, 2));
        Check.refused("no such branch, the same", Check.INDEX, full,
                memory -> memory.join(3, 3));
        Check.refused("no such first, the second closed", Check.INDEX, full,
                memory -> memory.join(-1, 0));
        Check.refused("the first closed, no such second", Check.INDEX, full,
                memory -> memory.join(0, 3));
        Check.refused("the same, closed", Check.ARGUMENT, full, memory -> memory.join(0, 0));
        Check.refused("no room", Check.UNSUPPORTED, full, memory -> memory.join(1, 2));
        Check.refused("closed, no room", Check.STATE, full, memory -> memory.join(1, 0));
        Scene trimmed = full.then(memory -> memory.trim(5)).then(filledTo(120, 2));
        Check.refused("before the horizon, no room", Check.STATE, trimmed,
                memory -> memory.join(1, 2));
        Check.refused("the same, before the horizon", Check.ARGUMENT, trimmed,
                memory -> memory.join(1, 1));
        Check.refused("closed, before the horizon", Check.STATE, trimmed,
                memory -> memory.join(0, 2));
    }
}
