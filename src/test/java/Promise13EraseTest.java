/** Promise 13: erase. */
public final class Promise13EraseTest {
    private Promise13EraseTest() {
    }

    public static void main(String[] args) {
        Sentences promise = new Sentences("Promise 13: erase");
        promise.test("The text is empty", Promise13EraseTest::theTextIsEmpty);
        promise.end();
    }

    private static void theTextIsEmpty() {
        String[] texts = {"", "a", "no path", "a".repeat(31), "a.1.1.1.1.1.1.1.1.1.1.1.1.1.1.1~"};
        for (String text : texts) {
            Scene typed = Readable.FORKED.then(Scenes.text(text.replace(" ", "")));
            Check.sameAs("erased: " + text, Readable.FORKED, typed.then(Memory::erase));
            Past past = typed.then(Memory::erase).past();
            Check.due("length", 0, past.type(0));
            Check.due("no path", -1, past.find(0, 6));
            Check.due("room for 32", 32, filled(past));
            past.erase();
            past.type('c');
            Check.due("a new path", 4, past.find(0, 6));
        }
        Check.sameAs("twice", Scenes.NEW, memory -> {
            memory.type('a');
            memory.erase();
            memory.erase();
        });
    }

    private static int filled(Past past) {
        Scenes.text("b".repeat(32)).play(past);
        return past.type(0);
    }
}
