/** Promise 7: differs. */
public final class Promise07DiffersTest {
    private static final Scene ALL_DIFFER = Scenes.branches(1).then(memory -> {
        for (int cell = 47; cell >= 0; cell--) {
            memory.write(1, cell / 4, cell % 4, 1, 0);
        }
    });

    private Promise07DiffersTest() {
    }

    public static void main(String[] args) {
        Sentences promise = new Sentences("Promise 7: differs");
        promise.test("The k-th field (from 0; by objects and then fields, as 4 * object + field) "
                + "whose values are not the same on two branches at the clock",
                Promise07DiffersTest::theKthField);
        promise.test("NONE when there is none", Promise07DiffersTest::noneWhenThereIsNone);
        promise.test("IndexOutOfBoundsException when there is no such branch",
                Promise07DiffersTest::noSuchBranch);
        promise.test("IllegalStateException when one is not open", Promise07DiffersTest::notOpen);
        promise.term(Sentences.FIRST_NAMED, Promise07DiffersTest::firstNamed);
        promise.end();
    }

    private static void isDifferent(Past past, int one, int two, int... cells) {
        for (int k = 0; k < cells.length; k++) {
            Check.due("differs " + k, cells[k], past.differs(one, two, k));
            Check.due("turned " + k, cells[k], past.differs(two, one, k));
        }
        int[] outside = {cells.length, -1, Integer.MIN_VALUE, Integer.MAX_VALUE};
        for (int k : outside) {
            Check.due("differs " + k, -1, past.differs(one, two, k));
        }
    }

    private static void theKthField() {
        Past past = new Past();
        past.write(0, 0, 0, 1, 1);
        past.branch(0, 1);
        past.write(1, 11, 3, 1, 1);
        past.write(0, 5, 2, 1, 3);
        past.write(1, 5, 2, 2, 3);
        past.write(0, 5, 1, 1, 3);
        past.write(1, 5, 1, 1, 3);
        past.write(0, 4, 0, 0, 9);
        past.write(0, 3, 0, 1, 0);
        past.write(0, 2, 3, 2, 0);
        isDifferent(past, 0, 1, 11, 12, 22, 47);
        past.write(0, 0, 0, 1, 2);
        isDifferent(past, 1, 0, 0, 11, 12, 22, 47);
        past.write(1, 0, 0, 1, 2);
        isDifferent(past, 1, 0, 11, 12, 22, 47);
        Past all = ALL_DIFFER.past();
        for (int k = 0; k < 48; k++) {
            Check.due("all differ, " + k, k, all.differs(0, 1, k));
        }
    }

    private static void noneWhenThereIsNone() {
        isDifferent(new Past(), 0, 0);
        Past past = ALL_DIFFER.past();
        Check.due("the last of 48", 47, past.differs(0, 1, 47));
        Check.due("behind the last of 48", -1, past.differs(0, 1, 48));
        isDifferent(past, 1, 1);
        past.branch(1, 48);
        isDifferent(past, 1, 2);
        past.write(2, 0, 0, 1, 0);
        isDifferent(past, 1, 2);
    }

    private static void noSuchBranch() {
        Scene three = Scenes.branches(2);
        Check.With one = (memory, branch) -> memory.differs(branch, 0, 0);
        Check.allowedWithin("one", 0, 2, three, one);
        Check.refusedOutside("one", Check.INDEX, 0, 2, three, one);
        Check.With two = (memory, branch) -> memory.differs(0, branch, 0);
        Check.allowedWithin("two", 0, 2, three, two);
        Check.refusedOutside("two", Check.INDEX, 0, 2, three, two);
    }

    private static void notOpen() {
        Scene closed = ALL_DIFFER.then(memory -> memory.close(1));
        Check.refused("the one", Check.STATE, closed, memory -> memory.differs(1, 0, 0));
        Check.refused("the other", Check.STATE, closed, memory -> memory.differs(0, 1, 0));
        Check.refused("both", Check.STATE, closed, memory -> memory.differs(1, 1, 0));
        Check.refused("with no k", Check.STATE, closed, memory -> memory.differs(0, 1, -1));
        Check.allowed("none of them", closed, memory -> memory.differs(0, 0, 0));
    }

    private static void firstNamed() {
        Scene closed = ALL_DIFFER.then(memory -> memory.close(1));
        Check.refused("the one closed, no other", Check.INDEX, closed,
                memory -> memory.differs(1, 2, 0));
        Check.refused("no one, the other closed", Check.INDEX, closed,
                memory -> memory.differs(-1, 1, 0));
    }
}
