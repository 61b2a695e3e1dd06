/** Promise 15: state. */
public final class Promise15StateTest {
    /** Clock, horizon, writes and branches are all different. */
    private static final Scene USED = Scenes.writes(5).then(memory -> {
        memory.branch(0, 3);
        memory.trim(4);
    });

    private Promise15StateTest() {
    }

    public static void main(String[] args) {
        Sentences promise = new Sentences("Promise 15: state");
        promise.test("What = 0 the clock", Promise15StateTest::theClock);
        promise.test("1 the horizon", Promise15StateTest::theHorizon);
        promise.test("2 how many writes there are", Promise15StateTest::howManyWrites);
        promise.test("3 how many branches", Promise15StateTest::howManyBranches);
        promise.test("IllegalArgumentException when what is none of these",
                Promise15StateTest::whatIsNoneOfThese);
        promise.end();
    }

    private static void theClock() {
        Check.due("at first", 0, new Past().state(0));
        Check.due("behind 5 writes", 5, USED.past().state(0));
        Check.due("behind 120 writes", 120, Scenes.FULL.past().state(0));
        Past past = Scenes.branches(1).past();
        past.write(1, 0, 0, 1, 1);
        past.write(1, 1, 0, 1, 1);
        past.join(1, 0);
        Check.due("behind a join", 4, past.state(0));
        past.trim(4);
        Check.due("a trim takes nothing from it", 4, past.state(0));
    }

    private static void theHorizon() {
        Check.due("at first", 0, new Past().state(1));
        Check.due("behind a trim", 4, USED.past().state(1));
        Past past = Scenes.FULL.past();
        past.trim(0);
        Check.due("the least", 0, past.state(1));
        past.trim(120);
        Check.due("the greatest", 120, past.state(1));
        past.write(0, 0, 0, 0, 0);
        Check.due("a write takes it not along", 120, past.state(1));
    }

    private static void howManyWrites() {
        Check.due("at first", 0, new Past().state(2));
        Check.due("those that went do not count", 3, USED.past().state(2));
        Check.due("the most", 120, Scenes.FULL.past().state(2));
        Past past = Scenes.branches(2).past();
        past.write(1, 0, 0, 0, 0);
        past.write(2, 0, 0, 0, 0);
        past.close(2);
        Check.due("of all branches, open or not", 2, past.state(2));
    }

    private static void howManyBranches() {
        Check.due("at first", 1, new Past().state(3));
        Check.due("two", 2, USED.past().state(3));
        Past past = Scenes.SIX.past();
        Check.due("the most", 6, past.state(3));
        past.close(0);
        past.trim(0);
        Check.due("open or not", 6, past.state(3));
    }

    private static void whatIsNoneOfThese() {
        Check.With asked = (memory, what) -> memory.state(what);
        Check.allowedWithin("what", 0, 3, USED, asked);
        Check.refusedOutside("what", Check.ARGUMENT, 0, 3, USED, asked);
        Check.refusedOutside("what", Check.ARGUMENT, 0, 3, Scenes.NEW, asked);
    }
}
