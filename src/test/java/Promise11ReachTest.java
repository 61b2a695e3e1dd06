/** Promise 11: reach. */
public final class Promise11ReachTest {
    /** Each object but the last refers to the next one, by fields 3, 2, 1, 0, 3, .. */
    private static final Scene ROW = memory -> {
        for (int object = 0; object < 11; object++) {
            memory.write(0, object, (11 - object) % 4, 2, object + 1);
        }
    };

    private Promise11ReachTest() {
    }

    public static void main(String[] args) {
        Sentences promise = new Sentences("Promise 11: reach");
        promise.test("The objects to which any fields lead from one, any number of times",
                Promise11ReachTest::anyFieldsAnyNumberOfTimes);
        promise.test("(itself, too)", Promise11ReachTest::itselfToo);
        promise.test("as the sum of 2^object", Promise11ReachTest::asTheSum);
        promise.test("IndexOutOfBoundsException when there is no such branch or object",
                Promise11ReachTest::noSuchBranchOrObject);
        promise.test("IllegalArgumentException when the branch can not be read then",
                () -> Readable.edges((memory, branch, moment) ->
                        memory.reach(branch, moment, 0)));
        promise.term(Sentences.FIRST_NAMED, Promise11ReachTest::firstNamed);
        promise.end();
    }

    private static void anyFieldsAnyNumberOfTimes() {
        Past past = ROW.past();
        Check.due("eleven times", 4095, past.reach(0, 11, 0));
        Check.due("as it was", 7, past.reach(0, 2, 0));
        past.write(0, 11, 0, 2, 8);
        Check.due("round", 256 + 512 + 1024 + 2048, past.reach(0, 12, 10));
        past.write(0, 8, 3, 1, 9);
        Check.due("a number leads nowhere", 256, past.reach(0, 13, 8));
        past.write(0, 8, 0, 2, 2);
        past.write(0, 8, 1, 2, 8);
        past.write(0, 3, 0, 0, 0);
        Check.due("backwards", 256 + 4 + 8, past.reach(0, 16, 8));
        past.branch(0, 2);
        Check.due("on the branch", 7, past.reach(1, 16, 0));
        Past wide = new Past();
        for (int field = 0; field < 4; field++) {
            wide.write(0, 5, field, 2, 2 * field + 1);
        }
        Check.due("by all four", 2 + 8 + 32 + 128, wide.reach(0, 4, 5));
        Past back = new Past();
        for (int object = 1; object < 12; object++) {
            back.write(0, object, object % 4, 2, object - 1);
        }
        Check.due("eleven times, backwards", 4095, back.reach(0, 11, 11));
    }

    private static void itselfToo() {
        Past past = new Past();
        for (int object = 0; object < 12; object++) {
            Check.due("alone: " + object, 1 << object, past.reach(0, 0, object));
        }
        past.write(0, 4, 0, 2, 4);
        Check.due("by a reference to itself", 16, past.reach(0, 1, 4));
        past.write(0, 4, 0, 2, 5);
        Check.due("with another one", 16 + 32, past.reach(0, 2, 4));
        Check.due("not from there", 32, past.reach(0, 2, 5));
    }

    private static void asTheSum() {
        Past past = ROW.past();
        for (int object = 0; object < 12; object++) {
            Check.due("from " + object + " on", 4096 - (1 << object), past.reach(0, 11, object));
        }
    }

    private static void noSuchBranchOrObject() {
        Scene three = Scenes.branches(2);
        Check.With onBranch = (memory, branch) -> memory.reach(branch, 0, 0);
        Check.allowedWithin("branch", 0, 2, three, onBranch);
        Check.refusedOutside("branch", Check.INDEX, 0, 2, three, onBranch);
        Check.With ofObject = (memory, object) -> memory.reach(1, 0, object);
        Check.allowedWithin("object", 0, 11, three, ofObject);
        Check.refusedOutside("object", Check.INDEX, 0, 11, three, ofObject);
    }

    private static void firstNamed() {
        Scene closed = Scenes.branches(1).then(memory -> memory.close(1));
        Check.refused("no branch, not then", Check.INDEX, closed,
                memory -> memory.reach(2, 1, 0));
        Check.refused("no object, not then", Check.INDEX, closed,
                memory -> memory.reach(0, 1, 12));
        Check.refused("no object, closed", Check.INDEX, closed,
                memory -> memory.reach(1, 0, -1));
    }
}
