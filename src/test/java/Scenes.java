/** The scenes that several tests begin with. */
final class Scenes {
    static final Scene NEW = memory -> {
    };

    /** All 120 writes that can be there. */
    static final Scene FULL = writes(120);

    /** All 6 branches that can be there: 1 to 5 are children of branch 0, with fork 0. */
    static final Scene SIX = branches(5);

    private Scenes() {
    }

    /** On branch 0, field 0 of object 0 becomes the number 1 at moment 1, 2 at moment 2, .. */
    static Scene writes(int count) {
        return memory -> {
            for (int number = 1; number <= count; number++) {
                memory.write(0, 0, 0, 1, number);
            }
        };
    }

    /** Branches 1, 2, .., all of them children of branch 0, with fork 0. */
    static Scene branches(int count) {
        return memory -> {
            for (int made = 0; made < count; made++) {
                memory.branch(0, 0);
            }
        };
    }

    /** A text, typed four characters a word, into the text that is there. */
    static Scene text(String text) {
        return memory -> {
            for (int at = 0; at < text.length(); at += 4) {
                memory.type(word(text.substring(at, Math.min(at + 4, text.length()))));
            }
        };
    }

    /** The word whose bytes are these characters, the last one lowest. */
    static int word(String four) {
        int word = 0;
        for (int at = 0; at < four.length(); at++) {
            word = word << 8 | four.charAt(at);
        }
        return word;
    }
}
