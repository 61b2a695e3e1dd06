/** Promise 4: write. */
public final class Promise04WriteTest {
    /** Branches 0 to 2, of which 2 is closed. */
    private static final Scene CLOSED = Scenes.branches(2).then(memory -> memory.close(2));
    private static final Scene FULL_AND_CLOSED = CLOSED.then(Scenes.FULL);

    private Promise04WriteTest() {
    }

    public static void main(String[] args) {
        Sentences promise = new Sentences("Promise 4: write");
        promise.test("Writes a field on a branch", Promise04WriteTest::writesAField);
        promise.test("kind 0 nothing", Promise04WriteTest::nothing);
        promise.test("1 the number value", Promise04WriteTest::theNumber);
        promise.test("2 a reference to object value", Promise04WriteTest::aReference);
        promise.test("answers the moment", Promise04WriteTest::answersTheMoment);
        promise.test("IndexOutOfBoundsException when there is no such branch, object or field",
                Promise04WriteTest::noSuchBranchObjectOrField);
        promise.test("IllegalArgumentException when kind is none of these",
                Promise04WriteTest::kindIsNoneOfThese);
        promise.test("or value is no object for 2", Promise04WriteTest::valueIsNoObject);
        promise.test("IllegalStateException when the branch is not open",
                Promise04WriteTest::branchIsNotOpen);
        promise.test("UnsupportedOperationException when there are 120 writes",
                Promise04WriteTest::thereAre120Writes);
        promise.term(Sentences.FIRST_NAMED, Promise04WriteTest::firstNamed);
        promise.end();
    }

    private static void writesAField() {
        Past past = Scenes.branches(1).past();
        for (int cell = 0; cell < 48; cell++) {
            past.write(1, cell / 4, cell % 4, 1, 100 + cell);
        }
        for (int cell = 0; cell < 48; cell++) {
            Check.due("field " + cell, 100 + cell, past.read(1, 48, cell / 4, cell % 4, 1));
            Check.due("written by", cell + 1, past.read(1, 48, cell / 4, cell % 4, 2));
            Check.due("not on branch 0", 0, past.read(0, 48, cell / 4, cell % 4, 0));
        }
        Check.due("writes", 48, past.state(2));
        Check.due("writes of branch 1", 48, past.about(1, 3));
    }

    /** Of field 3 of object 11 at the clock: kind and value, and that the last write gave them. */
    private static void isRead(Past past, int kind, int value) {
        int clock = past.state(0);
        Check.due("kind", kind, past.read(0, clock, 11, 3, 0));
        Check.due("value", value, past.read(0, clock, 11, 3, 1));
        Check.due("moment", clock, past.read(0, clock, 11, 3, 2));
    }

    private static void nothing() {
        Past past = new Past();
        for (int value : new int[] {0, 1, -1, 12, Integer.MIN_VALUE, Integer.MAX_VALUE}) {
            past.write(0, 11, 3, 1, 7);
            past.write(0, 11, 3, 0, value);
            isRead(past, 0, 0);
        }
        past.branch(0, 0);
        Check.due("the same as not written", -1, past.differs(0, 1, 0));
    }

    private static void theNumber() {
        Past past = new Past();
        for (int value : new int[] {0, 1, -1, 11, 12, Integer.MIN_VALUE, Integer.MAX_VALUE}) {
            past.write(0, 11, 3, 1, value);
            isRead(past, 1, value);
        }
    }

    private static void aReference() {
        Past past = new Past();
        for (int object = 0; object < 12; object++) {
            past.write(0, 11, 3, 2, object);
            isRead(past, 2, object);
        }
    }

    private static void answersTheMoment() {
        Past past = Scenes.branches(1).past();
        Check.due("the first one", 1, past.write(0, 0, 0, 1, 5));
        Check.due("the same value again", 2, past.write(0, 0, 0, 1, 5));
        Check.due("nothing where nothing is", 3, past.write(0, 1, 1, 0, 0));
        Check.due("on another branch", 4, past.write(1, 2, 0, 1, 5));
        Check.due("clock", 4, past.state(0));
        past.trim(4);
        Check.due("behind a trim", 5, past.write(0, 0, 0, 1, 6));
        Check.due("clock", 5, past.state(0));
        Check.due("before it", 5, past.read(0, 4, 0, 0, 1));
        Check.due("at it", 6, past.read(0, 5, 0, 0, 1));
    }

    private static void noSuchBranchObjectOrField() {
        Scene three = Scenes.branches(2);
        Check.With onBranch = (memory, branch) -> memory.write(branch, 0, 0, 1, 1);
        Check.allowedWithin("branch", 0, 2, three, onBranch);
        Check.refusedOutside("branch", Check.INDEX, 0, 2, three, onBranch);
        Check.With toObject = (memory, object) -> memory.write(1, object, 0, 1, 1);
        Check.allowedWithin("object", 0, 11, three, toObject);
        Check.refusedOutside("object", Check.INDEX, 0, 11, three, toObject);
        Check.With toField = (memory, field) -> memory.write(1, 0, field, 1, 1);
        Check.allowedWithin("field", 0, 3, three, toField);
        Check.refusedOutside("field", Check.INDEX, 0, 3, three, toField);
    }

    private static void kindIsNoneOfThese() {
        Check.With ofKind = (memory, kind) -> memory.write(0, 0, 0, kind, 0);
        Check.allowedWithin("kind", 0, 2, Scenes.NEW, ofKind);
        Check.refusedOutside("kind", Check.ARGUMENT, 0, 2, Scenes.NEW, ofKind);
    }

    private static void valueIsNoObject() {
        Check.With to = (memory, value) -> memory.write(0, 0, 0, 2, value);
        Check.allowedWithin("to object", 0, 11, Scenes.NEW, to);
        Check.refusedOutside("to object", Check.ARGUMENT, 0, 11, Scenes.NEW, to);
        Check.allowed("no object for 1", Scenes.NEW, memory -> memory.write(0, 0, 0, 1, 12));
        Check.allowed("no object for 0", Scenes.NEW, memory -> memory.write(0, 0, 0, 0, -1));
    }

    private static void branchIsNotOpen() {
        for (int kind = 0; kind < 3; kind++) {
            int ofKind = kind;
            Check.refused("closed, kind " + kind, Check.STATE, CLOSED,
                    memory -> memory.write(2, 0, 0, ofKind, 0));
        }
        Check.refused("branch 0 closed", Check.STATE, CLOSED.then(memory -> memory.close(0)),
                memory -> memory.write(0, 0, 0, 1, 1));
        Check.allowed("an open one", CLOSED, memory -> memory.write(1, 0, 0, 1, 1));
    }

    private static void thereAre120Writes() {
        Check.due("write 120", 120, Scenes.writes(119).past().write(0, 11, 3, 1, 1));
        for (int kind = 0; kind < 3; kind++) {
            int ofKind = kind;
            Check.refused("write 121, kind " + kind, Check.UNSUPPORTED, Scenes.FULL,
                    memory -> memory.write(0, 0, 0, ofKind, 0));
        }
        Scene onTwo = Scenes.writes(70).then(memory -> {
            memory.branch(0, 70);
            for (int made = 0; made < 50; made++) {
                memory.write(1, 1, 1, 1, made);
            }
        });
        Check.refused("70 and 50, on 0", Check.UNSUPPORTED, onTwo,
                memory -> memory.write(0, 0, 0, 1, 0));
        Check.refused("70 and 50, on 1", Check.UNSUPPORTED, onTwo,
                memory -> memory.write(1, 0, 0, 1, 0));
        roomAgain();
    }

    private static void roomAgain() {
        Scene oneGone = Scenes.FULL.then(memory -> memory.trim(2));
        Check.due("room for one", 121, oneGone.past().write(0, 0, 0, 1, 0));
        Check.refused("and no more", Check.UNSUPPORTED,
                oneGone.then(memory -> memory.write(0, 0, 0, 1, 0)),
                memory -> memory.write(0, 0, 0, 1, 0));
        Past past = Scenes.FULL.past();
        Check.due("all but one go", 119, past.trim(120));
        for (int moment = 121; moment <= 239; moment++) {
            Check.due("room for 119", moment, past.write(0, 1, 1, 1, moment));
        }
        Check.due("and no more", "throws.UnsupportedOperationException",
                Answer.of(() -> past.write(0, 1, 1, 1, 0)));
    }

    private static void firstNamed() {
        Scene scene = FULL_AND_CLOSED;
        Check.refused("no branch, no kind, full", Check.INDEX, scene,
                memory -> memory.write(3, 0, 0, 3, 0));
        Check.refused("no object, no kind, closed, full", Check.INDEX, scene,
                memory -> memory.write(2, 12, 0, 3, 0));
        Check.refused("no field, no object for 2, closed, full", Check.INDEX, scene,
                memory -> memory.write(2, 0, 4, 2, 12));
        Check.refused("no field, closed, full", Check.INDEX, scene,
                memory -> memory.write(2, 0, -1, 1, 1));
        Check.refused("no object, full", Check.INDEX, scene,
                memory -> memory.write(0, -1, 0, 1, 1));
        Check.refused("no kind, closed, full", Check.ARGUMENT, scene,
                memory -> memory.write(2, 0, 0, 3, 0));
        Check.refused("no object for 2, closed, full", Check.ARGUMENT, scene,
                memory -> memory.write(2, 0, 0, 2, 12));
        Check.refused("no kind, full", Check.ARGUMENT, scene,
                memory -> memory.write(0, 0, 0, -1, 0));
        Check.refused("no kind, closed", Check.ARGUMENT, CLOSED,
                memory -> memory.write(2, 0, 0, 3, 0));
        Check.refused("closed, full", Check.STATE, scene,
                memory -> memory.write(2, 0, 0, 1, 0));
    }
}
