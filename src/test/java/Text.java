/** Types texts into an object, four characters a word. */
final class Text {
    private Text() {
    }

    static int put(BranchedPast past, String text) {
        past.erase();
        int length = 0;
        for (int at = 0; at < text.length(); at += 4) {
            length = past.type(word(text.substring(at, Math.min(at + 4, text.length()))));
        }
        return length;
    }

    static int word(String four) {
        int word = 0;
        for (int at = 0; at < four.length(); at++) {
            word = word << 8 | four.charAt(at);
        }
        return word;
    }
}
