/** Promise 1: a new object. */
public final class Promise01NewObjectTest {
    private Promise01NewObjectTest() {
    }

    public static void main(String[] args) {
        Sentences promise = new Sentences("Promise 1: A new object");
        promise.test("One branch", Promise01NewObjectTest::oneBranch);
        promise.test("clock and horizon 0", Promise01NewObjectTest::clockAndHorizon0);
        promise.test("nothing is written", Promise01NewObjectTest::nothingIsWritten);
        promise.test("no text", Promise01NewObjectTest::noText);
        promise.end();
    }

    private static void oneBranch() {
        Past past = new Past();
        Check.due("branches", 1, past.state(3));
        Check.due("open", 1, past.about(0, 0));
        Check.due("parent", -1, past.about(0, 1));
        Check.due("fork", 0, past.about(0, 2));
        Check.refused("no branch 1", Check.INDEX, Scenes.NEW, memory -> memory.about(1, 0));
    }

    private static void clockAndHorizon0() {
        Past past = new Past();
        Check.due("clock", 0, past.state(0));
        Check.due("horizon", 0, past.state(1));
        Check.due("met at the clock", 0, past.meeting(0, 0));
        Check.due("trim at both", 0, past.trim(0));
        Check.refused("before the horizon", Check.ARGUMENT, Scenes.NEW, memory -> memory.trim(-1));
        Check.refused("after the clock", Check.ARGUMENT, Scenes.NEW, memory -> memory.trim(1));
    }

    private static void nothingIsWritten() {
        // What an older object holds is not held by a new one.
        Scene used = Scenes.FULL.then(Scenes.text("a"));
        used.past();
        Past past = new Past();
        Check.due("writes", 0, past.state(2));
        Check.due("writes of branch 0", 0, past.about(0, 3));
        for (int cell = 0; cell < 48; cell++) {
            Check.due("kind", 0, past.read(0, 0, cell / 4, cell % 4, 0));
            Check.due("value", 0, past.read(0, 0, cell / 4, cell % 4, 1));
            Check.due("moment", -1, past.read(0, 0, cell / 4, cell % 4, 2));
            Check.due("history", -1, past.history(0, cell / 4, cell % 4, 0));
        }
    }

    private static void noText() {
        Past past = new Past();
        Check.due("no path", -1, past.find(0, 0));
        Check.due("length", 0, past.type(0));
        Check.due("the first character", 1, past.type('b'));
        Check.due("is all of the path", 2, past.find(0, 0));
    }
}
