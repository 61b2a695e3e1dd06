/** Promise 2: branch. */
public final class Promise02BranchTest {
    private Promise02BranchTest() {
    }

    public static void main(String[] args) {
        Sentences promise = new Sentences("Promise 2: branch");
        promise.test("A new branch, from another one at a moment; answers its number",
                Promise02BranchTest::newBranch);
        promise.test("IndexOutOfBoundsException when there is no such branch",
                Promise02BranchTest::noSuchBranch);
        promise.test("IllegalArgumentException when that can not be read then",
                () -> Readable.edges((memory, parent, moment) -> memory.branch(parent, moment)));
        promise.test("IllegalStateException when there are 6", Promise02BranchTest::thereAre6);
        promise.term(Sentences.FIRST_NAMED, Promise02BranchTest::firstNamed);
        promise.end();
    }

    private static void newBranch() {
        Past past = Scenes.writes(4).past();
        Check.due("from the past", 1, past.branch(0, 2));
        Check.due("from the first moment", 2, past.branch(0, 0));
        Check.due("from the clock", 3, past.branch(0, 4));
        Check.due("from a branch at its fork", 4, past.branch(1, 2));
        past.close(2);
        Check.due("from a branch behind its fork; no number comes back", 5, past.branch(1, 3));
        Check.due("parent", 1, past.about(5, 1));
        Check.due("fork", 3, past.about(5, 2));
        Check.due("open", 1, past.about(5, 0));
        Check.due("clock and writes stay", 8, past.state(0) + past.state(2));
        Check.due("what was before the fork", 2, past.read(1, 4, 0, 0, 1));
        Check.due("through two forks", 2, past.read(5, 3, 0, 0, 1));
        past.write(1, 0, 0, 1, 50);
        Check.due("not in sight of an earlier fork", 2, past.read(5, 5, 0, 0, 1));
        Check.due("not in sight of the parent", 4, past.read(0, 5, 0, 0, 1));
    }

    private static void noSuchBranch() {
        Check.With from = (memory, parent) -> memory.branch(parent, 0);
        Check.allowedWithin("parent", 0, 0, Scenes.NEW, from);
        Check.refusedOutside("parent", Check.INDEX, 0, 0, Scenes.NEW, from);
        Check.allowedWithin("parent", 0, 4, Scenes.branches(4), from);
        Check.refusedOutside("parent", Check.INDEX, 0, 4, Scenes.branches(4), from);
    }

    private static void thereAre6() {
        Check.due("the sixth one", 5, Scenes.branches(4).past().branch(0, 0));
        Check.due("the sixth one of a row", 5, chain(4).past().branch(4, 4));
        Check.refused("a seventh one", Check.STATE, Scenes.SIX, memory -> memory.branch(0, 0));
        Check.refused("a seventh one, from the last", Check.STATE, Scenes.SIX,
                memory -> memory.branch(5, 0));
        Check.refused("a seventh one of a row", Check.STATE, chain(5),
                memory -> memory.branch(5, 5));
        Scene closed = Scenes.SIX.then(memory -> {
            memory.close(5);
            memory.close(3);
            memory.trim(0);
        });
        Check.refused("closed ones are there, too", Check.STATE, closed,
                memory -> memory.branch(0, 0));
    }

    /** Each branch leaves the one before it, one write later. */
    private static Scene chain(int branches) {
        return memory -> {
            for (int branch = 0; branch < branches; branch++) {
                int moment = memory.write(branch, 0, 0, 1, branch);
                memory.branch(branch, moment);
            }
        };
    }

    private static void firstNamed() {
        Scene six = Scenes.SIX.then(memory -> memory.close(4));
        Check.refused("no such branch, not then", Check.INDEX, Scenes.NEW,
                memory -> memory.branch(1, 1));
        Check.refused("no such branch, there are 6", Check.INDEX, six,
                memory -> memory.branch(6, 0));
        Check.refused("no such branch, not then, there are 6", Check.INDEX, six,
                memory -> memory.branch(-1, -1));
        Check.refused("not then, there are 6", Check.ARGUMENT, six,
                memory -> memory.branch(0, 1));
        Check.refused("closed, there are 6", Check.ARGUMENT, six,
                memory -> memory.branch(4, 0));
    }
}
