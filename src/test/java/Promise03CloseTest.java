/** Promise 3: close. */
public final class Promise03CloseTest {
    private Promise03CloseTest() {
    }

    public static void main(String[] args) {
        Sentences promise = new Sentences("Promise 3: close");
        promise.test("A branch is not open any more", Promise03CloseTest::notOpenAnyMore);
        promise.test("IndexOutOfBoundsException when there is no such branch",
                Promise03CloseTest::noSuchBranch);
        promise.test("IllegalStateException when it is not open", Promise03CloseTest::notOpen);
        promise.test("or no other one is", Promise03CloseTest::noOtherOneIs);
        promise.term(Sentences.FIRST_NAMED, Promise03CloseTest::firstNamed);
        promise.end();
    }

    private static void notOpenAnyMore() {
        Past past = Readable.FORKED.past();
        past.close(1);
        Check.due("closed", 0, past.about(1, 0));
        Check.due("its parent is open", 1, past.about(0, 0));
        Check.due("its child is open", 1, past.about(2, 0));
        Check.due("its parent stays", 0, past.about(1, 1));
        Check.due("its fork stays", 2, past.about(1, 2));
        Check.due("branches", 3, past.state(3));
        Check.due("writes", 6, past.state(2));
        Check.due("clock", 6, past.state(0));
        Check.due("horizon", 0, past.state(1));
        Check.due("its child reads through it", 2, past.read(2, 6, 0, 0, 1));
        past.close(0);
        Check.due("branch 0, too", 0, past.about(0, 0));
        Check.due("still read through both", 2, past.read(2, 6, 0, 0, 1));
    }

    private static void noSuchBranch() {
        Check.With close = (memory, branch) -> memory.close(branch);
        Check.allowedWithin("branch", 0, 2, Scenes.branches(2), close);
        Check.refusedOutside("branch", Check.INDEX, 0, 2, Scenes.branches(2), close);
        Check.allowedWithin("branch", 0, 5, Scenes.SIX, close);
        Check.refusedOutside("branch", Check.INDEX, 0, 5, Scenes.SIX, close);
    }

    private static void notOpen() {
        for (int branch = 0; branch < 3; branch++) {
            int closed = branch;
            Check.refused("closed already: " + closed, Check.STATE,
                    Scenes.branches(2).then(memory -> memory.close(closed)),
                    memory -> memory.close(closed));
        }
    }

    private static void noOtherOneIs() {
        Check.refused("the only one", Check.STATE, Scenes.NEW, memory -> memory.close(0));
        for (int branch = 0; branch < 6; branch++) {
            int last = branch;
            Check.refused("the last of six: " + last, Check.STATE, allClosedBut(last),
                    memory -> memory.close(last));
        }
        Scene another = allClosedBut(2, 4);
        Check.allowed("one of the last two", another, memory -> memory.close(2));
        Check.allowed("the other one of the last two", another, memory -> memory.close(4));
        Past past = new Past();
        past.branch(0, 0);
        past.close(0);
        past.branch(1, 0);
        past.close(1);
        Check.due("a new one is another one", 1, past.about(2, 0));
    }

    private static Scene allClosedBut(int... kept) {
        return Scenes.SIX.then(memory -> {
            for (int branch = 0; branch < 6; branch++) {
                if (branch != kept[0] && branch != kept[kept.length - 1]) {
                    memory.close(branch);
                }
            }
        });
    }

    private static void firstNamed() {
        Check.refused("no such branch, no other one is open", Check.INDEX, Scenes.NEW,
                memory -> memory.close(1));
        Check.refused("no branch 6, no other one is open", Check.INDEX, allClosedBut(0),
                memory -> memory.close(6));
        Check.refused("not open, no other one is open", Check.STATE, allClosedBut(0),
                memory -> memory.close(5));
    }
}
