/** Promise 12: type. */
public final class Promise12TypeTest {
    private static final int[] NOT_TYPED = {1, 2, 31, 32, 127, 128, 129, 254, 255};

    private Promise12TypeTest() {
    }

    public static void main(String[] args) {
        Sentences promise = new Sentences("Promise 12: type");
        promise.test("The bytes of a word that are not 0", Promise12TypeTest::bytesThatAreNot0);
        promise.test("the highest first", Promise12TypeTest::theHighestFirst);
        promise.test("come to the end of the text", Promise12TypeTest::toTheEndOfTheText);
        promise.test("answers its length", Promise12TypeTest::answersItsLength);
        promise.test("IllegalArgumentException when one is not 33 .. 126",
                Promise12TypeTest::oneIsNot33To126);
        promise.test("IllegalStateException when there would be more than 32",
                Promise12TypeTest::moreThan32);
        promise.term(Sentences.FIRST_NAMED, Promise12TypeTest::firstNamed);
        promise.end();
    }

    private static void bytesThatAreNot0() {
        for (int shift = 0; shift <= 24; shift += 8) {
            Past past = new Past();
            Check.due("one byte", 1, past.type('c' << shift));
            Check.due("c", 4, past.find(0, 0));
        }
        Check.due("no byte", 0, new Past().type(0));
        for (int zeros = 0; zeros < 16; zeros++) {
            int word = 0;
            for (int at = 0; at < 4; at++) {
                word = word << 8 | ((zeros >> at & 1) == 0 ? 'a' : 0);
            }
            Check.due("word " + word, 4 - Integer.bitCount(zeros), new Past().type(word));
        }
    }

    private static void theHighestFirst() {
        Past past = new Past();
        past.write(0, 0, 1, 2, 3);
        past.write(0, 3, 2, 2, 5);
        past.type('a' << 24 | '.' << 16 | '1' << 8 | '.');
        past.type('2' << 24);
        Check.due("a.1.2", 32, past.find(0, 2));
        past.erase();
        past.type('a' << 24 | '.' << 8 | '1');
        Check.due("a.1, apart", 8, past.find(0, 2));
        past.erase();
        past.type('1' << 24 | '.' << 16 | 'a' << 8);
        Check.due("1.a", -1, past.find(0, 2));
    }

    private static void toTheEndOfTheText() {
        Past past = new Past();
        past.write(0, 4, 3, 2, 6);
        past.write(0, 6, 1, 2, 7);
        past.type('e');
        Check.due("e", 16, past.find(0, 2));
        past.type('.' << 8 | '3');
        Check.due("e.3", 64, past.find(0, 2));
        past.type(0);
        Check.due("e.3, nothing more", 64, past.find(0, 2));
        past.type('.');
        Check.due("e.3.", -1, past.find(0, 2));
        past.type('1' << 24);
        Check.due("e.3.1", 128, past.find(0, 2));
    }

    private static void answersItsLength() {
        Past past = new Past();
        int[] words = {0, 0x61000000, 0x610061, 0x616161, 0x61616161, 0, 0x21210000};
        int[] lengths = {0, 1, 3, 6, 10, 10, 12};
        for (int typed = 0; typed < words.length; typed++) {
            Check.due("length", lengths[typed], past.type(words[typed]));
        }
        past.find(0, 0);
        Check.due("a find lets it stay", 12, past.type(0));
        past.erase();
        Check.due("empty again", 1, past.type('a'));
    }

    private static void oneIsNot33To126() {
        Scene typed = Scenes.text("a.1");
        for (int shift = 0; shift <= 24; shift += 8) {
            for (int code = 33; code <= 126; code++) {
                Check.due("code " + code, 1, new Past().type(code << shift));
            }
            for (int code : NOT_TYPED) {
                int alone = code << shift;
                int among = 0x61616161 & ~(255 << shift) | alone;
                Check.refused("alone: " + code, Check.ARGUMENT, typed,
                        memory -> memory.type(alone));
                Check.refused("among others: " + code, Check.ARGUMENT, typed,
                        memory -> memory.type(among));
            }
        }
        Check.refused("-1", Check.ARGUMENT, typed, memory -> memory.type(-1));
        Check.refused("the least", Check.ARGUMENT, typed,
                memory -> memory.type(Integer.MIN_VALUE));
        Check.refused("the greatest", Check.ARGUMENT, typed,
                memory -> memory.type(Integer.MAX_VALUE));
        Check.due("the edges", 4, new Past().type(33 << 24 | 126 << 16 | 33 << 8 | 126));
        Past past = Scenes.text("a.").then(memory -> memory.write(0, 0, 1, 2, 9)).past();
        Answer.of(() -> past.type('2' << 24 | 127));
        past.type('1');
        Check.due("none of a refused word comes", 512, past.find(0, 1));
    }

    private static void moreThan32() {
        int[] words = {0, 0x61, 0x61000061, 0x61616100, 0x61616161};
        for (int length = 28; length <= 32; length++) {
            Scene typed = Scenes.text("a".repeat(length));
            for (int more = 0; more <= 4; more++) {
                int word = words[more];
                if (length + more <= 32) {
                    Check.due(length + " and " + more, length + more, typed.past().type(word));
                } else {
                    Check.refused(length + " and " + more, Check.STATE, typed,
                            memory -> memory.type(word));
                }
            }
        }
        Past past = Scenes.text("a.1.1.1.1.1.1.1.1.1.1.1.1.1.1").past();
        past.write(0, 0, 1, 2, 0);
        Answer.of(() -> past.type(Scenes.word(".2.2")));
        Check.due("none of a refused word comes", 31, past.type(Scenes.word(".1")));
        Check.due("the path of 31", 1, past.find(0, 1));
        Check.due("the last one", 32, past.type('~'));
        Check.due("the path of 32", 1, past.find(0, 1));
    }

    private static void firstNamed() {
        Scene full = Scenes.text("a".repeat(32));
        Check.refused("a bad one, full", Check.ARGUMENT, full, memory -> memory.type(32));
        Check.refused("a bad one behind a good one, full", Check.ARGUMENT, full,
                memory -> memory.type(0x6100007f));
        Check.refused("a bad one in the middle, 31", Check.ARGUMENT,
                Scenes.text("a".repeat(31)), memory -> memory.type(0x61610161));
        Check.refused("-1, full", Check.ARGUMENT, full, memory -> memory.type(-1));
    }
}
