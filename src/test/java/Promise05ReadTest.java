/** Promise 5: read. */
public final class Promise05ReadTest {
    /**
     * Field 1 of object 2 is a number from moment 1, another one from 2 and one more from 4; on
     * branch 1, which leaves at 1, it refers to object 7 from 3 and is nothing from 5.
     */
    private static final Scene WRITTEN = memory -> {
        memory.write(0, 2, 1, 1, 10);
        memory.write(0, 2, 1, 1, 20);
        memory.branch(0, 1);
        memory.write(1, 2, 1, 2, 7);
        memory.write(0, 2, 1, 1, 30);
        memory.write(1, 2, 1, 0, 9);
    };

    private Promise05ReadTest() {
    }

    public static void main(String[] args) {
        Sentences promise = new Sentences("Promise 5: read");
        promise.test("Reads a field", Promise05ReadTest::readsAField);
        promise.test("what = 0 the kind of its value", () -> isRead(0,
                new int[] {0, 1, 1, 1, 1, 1}, new int[] {1, 1, 2, 2, 0}));
        promise.test("1 the number or the object (0 for nothing)", () -> isRead(1,
                new int[] {0, 10, 20, 20, 30, 30}, new int[] {10, 10, 7, 7, 0}));
        promise.test("2 the moment of the write (NONE without)", () -> isRead(2,
                new int[] {-1, 1, 2, 2, 4, 4}, new int[] {1, 1, 3, 3, 5}));
        promise.test("IndexOutOfBoundsException when there is no such branch, object or field",
                Promise05ReadTest::noSuchBranchObjectOrField);
        promise.test("IllegalArgumentException when the branch can not be read then",
                () -> Readable.edges((memory, branch, moment) ->
                        memory.read(branch, moment, 0, 0, 0)));
        promise.test("or what is none of these", Promise05ReadTest::whatIsNoneOfThese);
        promise.term(Sentences.FIRST_NAMED, Promise05ReadTest::firstNamed);
        promise.end();
    }

    private static void readsAField() {
        Past past = WRITTEN.past();
        for (int what = 0; what < 3; what++) {
            int nothing = what == 2 ? -1 : 0;
            Check.due("another field", nothing, past.read(0, 5, 2, 0, what));
            Check.due("another field", nothing, past.read(0, 5, 2, 2, what));
            Check.due("another object", nothing, past.read(0, 5, 1, 1, what));
            Check.due("another object", nothing, past.read(1, 5, 3, 1, what));
        }
        Check.due("twice the same", past.read(0, 3, 2, 1, 1), past.read(0, 3, 2, 1, 1));
    }

    /** Of field 1 of object 2, at the moments 0 .. 5 of branch 0 and 1 .. 5 of branch 1. */
    private static void isRead(int what, int[] onZero, int[] onOne) {
        Past past = WRITTEN.past();
        for (int moment = 0; moment <= 5; moment++) {
            Check.due("branch 0 at " + moment, onZero[moment], past.read(0, moment, 2, 1, what));
        }
        for (int moment = 1; moment <= 5; moment++) {
            Check.due("branch 1 at " + moment, onOne[moment - 1],
                    past.read(1, moment, 2, 1, what));
        }
    }

    private static void noSuchBranchObjectOrField() {
        Scene three = Scenes.branches(2);
        Check.With onBranch = (memory, branch) -> memory.read(branch, 0, 0, 0, 0);
        Check.allowedWithin("branch", 0, 2, three, onBranch);
        Check.refusedOutside("branch", Check.INDEX, 0, 2, three, onBranch);
        Check.With ofObject = (memory, object) -> memory.read(1, 0, object, 0, 1);
        Check.allowedWithin("object", 0, 11, three, ofObject);
        Check.refusedOutside("object", Check.INDEX, 0, 11, three, ofObject);
        Check.With ofField = (memory, field) -> memory.read(2, 0, 0, field, 2);
        Check.allowedWithin("field", 0, 3, three, ofField);
        Check.refusedOutside("field", Check.INDEX, 0, 3, three, ofField);
    }

    private static void whatIsNoneOfThese() {
        Check.With asked = (memory, what) -> memory.read(0, 5, 2, 1, what);
        Check.allowedWithin("what", 0, 2, WRITTEN, asked);
        Check.refusedOutside("what", Check.ARGUMENT, 0, 2, WRITTEN, asked);
        Check.refusedOutside("what, nothing written", Check.ARGUMENT, 0, 2, Scenes.NEW,
                (memory, what) -> memory.read(0, 0, 0, 0, what));
    }

    private static void firstNamed() {
        Scene closed = WRITTEN.then(memory -> memory.close(1));
        Check.refused("no branch, no moment, no what", Check.INDEX, closed,
                memory -> memory.read(2, 6, 0, 0, 3));
        Check.refused("no object, no moment", Check.INDEX, closed,
                memory -> memory.read(0, 6, 12, 0, 0));
        Check.refused("no field, no what", Check.INDEX, closed,
                memory -> memory.read(0, 5, 0, 4, 3));
        Check.refused("no field, closed", Check.INDEX, closed,
                memory -> memory.read(1, 5, 0, -1, 0));
        Check.refused("no object, closed, no what", Check.INDEX, closed,
                memory -> memory.read(1, 5, -1, 0, -1));
        Check.refused("closed, no what", Check.ARGUMENT, closed,
                memory -> memory.read(1, 5, 0, 0, 3));
    }
}
