/** Promise 14: find. What a path is, and the set that it gives, is tested by TermsTest. */
public final class Promise14FindTest {
    /** 0 -> 1 -> 2 by field 1, at the moments 1 and 2; 2 -> 9 on branch 1, which leaves at 2. */
    private static final Scene LINKED = memory -> {
        memory.write(0, 0, 1, 2, 1);
        memory.write(0, 1, 1, 2, 2);
        memory.branch(0, 2);
        memory.write(1, 2, 1, 2, 9);
        memory.write(0, 2, 1, 2, 3);
    };

    private Promise14FindTest() {
    }

    public static void main(String[] args) {
        Sentences promise = new Sentences("Promise 14: find");
        promise.test("The set that the text (which stays) gives as a path, on a branch at a moment",
                Promise14FindTest::theSetThatTheTextGives);
        promise.test("NONE when it is no path (behind what is thrown)",
                Promise14FindTest::noneWhenItIsNoPath);
        promise.test("IndexOutOfBoundsException when there is no such branch",
                Promise14FindTest::noSuchBranch);
        promise.test("IllegalArgumentException when it can not be read then",
                Promise14FindTest::canNotBeReadThen);
        promise.term(Sentences.FIRST_NAMED, Promise14FindTest::firstNamed);
        promise.end();
    }

    private static void theSetThatTheTextGives() {
        Past past = LINKED.then(Scenes.text("a.1~")).past();
        Check.due("at 0", 1, past.find(0, 0));
        Check.due("at 1", 3, past.find(0, 1));
        Check.due("at 3", 7, past.find(0, 3));
        Check.due("at 4", 15, past.find(0, 4));
        Check.due("on the branch at 2", 7, past.find(1, 2));
        Check.due("on the branch at 3", 7 + 512, past.find(1, 3));
        Check.due("on the branch at 4", 7 + 512, past.find(1, 4));
        Check.due("the text stays", 4, past.type(0));
        Check.due("the same again", 15, past.find(0, 4));
        past.type('?' << 8 | '1');
        Check.due("and goes on", 8, past.find(0, 4));
        Scene asked = LINKED.then(Scenes.text("*?1"));
        Check.sameAs("it changes nothing", asked, asked.then(memory -> memory.find(1, 3)));
    }

    private static void noneWhenItIsNoPath() {
        String[] texts = {"", "m", "a.", "a.4", "a.1.1.1.1.1.1.1.1.1.1.1.1.1.1.1."};
        for (String text : texts) {
            Scene typed = LINKED.then(Scenes.text(text));
            Check.due("no path: " + text, -1, typed.past().find(0, 4));
            Check.due("no path on 1: " + text, -1, typed.past().find(1, 2));
            Check.sameAs("the text stays", typed, typed.then(memory -> memory.find(0, 4)));
            Check.refused("no branch: " + text, Check.INDEX, typed, memory -> memory.find(2, 4));
            Check.refused("not then: " + text, Check.ARGUMENT, typed, memory -> memory.find(0, 5));
        }
        Past past = LINKED.then(Scenes.text("a.")).past();
        past.find(0, 4);
        past.type('1');
        Check.due("a path in the end", 2, past.find(0, 4));
    }

    private static void noSuchBranch() {
        Scene three = Scenes.branches(2).then(Scenes.text("a"));
        Check.With onBranch = (memory, branch) -> memory.find(branch, 0);
        Check.allowedWithin("branch", 0, 2, three, onBranch);
        Check.refusedOutside("branch", Check.INDEX, 0, 2, three, onBranch);
    }

    private static void canNotBeReadThen() {
        // No text is typed here, which is no path.
        Readable.edges((memory, branch, moment) -> memory.find(branch, moment));
        Scene typed = Readable.FORKED.then(Scenes.text("a.1")).then(memory -> memory.trim(5));
        Check.With at = (memory, moment) -> memory.find(2, moment);
        Check.allowedWithin("a path at", 5, 6, typed, at);
        Check.refusedOutside("a path at", Check.ARGUMENT, 5, 6, typed, at);
        Check.refused("closed", Check.ARGUMENT, typed.then(memory -> memory.close(1)),
                memory -> memory.find(1, 6));
    }

    private static void firstNamed() {
        Scene closed = LINKED.then(Scenes.text("a")).then(memory -> memory.close(1));
        Check.refused("no branch, not then", Check.INDEX, closed, memory -> memory.find(2, 5));
        Check.refused("no branch, before 0", Check.INDEX, closed, memory -> memory.find(-1, -1));
    }
}
