/** The terms of paths: which texts are one, and the sets that they give. */
final class PathTerms {
    private static final int ALL = 4095;

    /** 0 -> 1 -> 2 -> 3 -> 1 by field 1; 4 and 5 -> 0 by field 3; 6 -> 6 by field 0. */
    private static final Scene LINKED = memory -> {
        memory.write(0, 0, 1, 2, 1);
        memory.write(0, 1, 1, 2, 2);
        memory.write(0, 2, 1, 2, 3);
        memory.write(0, 3, 1, 2, 1);
        memory.write(0, 4, 3, 2, 0);
        memory.write(0, 5, 3, 2, 0);
        memory.write(0, 6, 0, 2, 6);
        memory.write(0, 7, 1, 1, 1);
    };

    /** Field 2 of objects 0 .. 7: numbers and, of object 6, a reference; field 1 of object 8. */
    private static final Scene NUMBERS = memory -> {
        memory.write(0, 0, 2, 1, 5);
        memory.write(0, 1, 2, 1, -5);
        memory.write(0, 2, 2, 1, 9999);
        memory.write(0, 3, 2, 1, 10000);
        memory.write(0, 4, 2, 1, Integer.MIN_VALUE);
        memory.write(0, 5, 2, 1, Integer.MAX_VALUE);
        memory.write(0, 6, 2, 2, 5);
        memory.write(0, 7, 2, 1, 0);
        memory.write(0, 8, 1, 1, 5);
    };

    private PathTerms() {
    }

    static void tests(Sentences terms) {
        terms.test("A PATH is a text of at most 32 characters", PathTerms::atMost32Characters);
        terms.test("a START: a letter a .. l (objects 0 .. 11), or * (all)", PathTerms::start);
        terms.test("then any number of STEPS", PathTerms::anyNumberOfSteps);
        terms.test(". and a digit 0 .. 3: the objects to which that field of these refers",
                PathTerms::thatFieldOfTheseRefers);
        terms.test("^ and a digit: those whose field refers to one of these",
                PathTerms::refersToOneOfThese);
        terms.test("either one, with ~ behind it, done again and again: all that come so, and "
                + "these themselves", PathTerms::againAndAgain);
        terms.test("[ and a digit, one of < = >, a number (perhaps - and one to four digits) and "
                + "]: those of these whose field is a number that is so", PathTerms::aNumberThatIsSo);
        terms.test("? and a digit: those of these whose field is nothing", PathTerms::isNothing);
        terms.test("It gives a set of objects, as the sum of 2^object", PathTerms::theSum);
    }

    private static void gives(Scene scene, String path, int set) {
        Past past = scene.then(Scenes.text(path)).past();
        Check.due(path, set, past.find(0, past.state(0)));
    }

    private static void noPaths(String... texts) {
        for (String text : texts) {
            gives(LINKED, text, -1);
            gives(NUMBERS, text, -1);
        }
    }

    private static void atMost32Characters() {
        gives(LINKED, "a", 1);
        gives(LINKED, "a.1.1.1.1.1.1.1.1.1.1.1.1.1.1.1", 8);
        gives(LINKED, "a.1.1.1.1.1.1.1.1.1.1.1.1.1.1.1~", 14);
        gives(LINKED, "*[1=1][1=01][1=001][1=0001]?0?2", 128);
        gives(LINKED, "*[1=1][1=01][1=001][1=0001].1?0~", -1);
        // The text is full in the middle of a step.
        noPaths("a.1.1.1.1.1.1.1.1.1.1.1.1.1[1=12", "a.1.1.1.1.1.1.1.1.1.1.1.1.1.1[1=",
                "a.1.1.1.1.1.1.1.1.1.1.1.1.1[1=-1", "*[0<-9999][1<-9999][2<-9999]?0~?",
                "a.1.1.1.1.1.1.1.1.1.1.1.1.1.1.1.", "*[1=1][1=01][1=001][1=0001]?0?2^",
                "*[1=1][1=01][1=001][1=0001]?0?2[", "*[1=1][1=01][1=001][1=0001]?0?2?");
        Check.refused("33", Check.STATE, Scenes.text("a.1.1.1.1.1.1.1.1.1.1.1.1.1.1.1~"),
                memory -> memory.type('.'));
    }

    private static void start() {
        for (int object = 0; object < 12; object++) {
            gives(LINKED, String.valueOf((char) ('a' + object)), 1 << object);
        }
        gives(LINKED, "*", ALL);
        for (char sign = 33; sign <= 126; sign++) {
            if (sign != '*' && (sign < 'a' || sign > 'l')) {
                noPaths(String.valueOf(sign), sign + ".1");
            }
        }
        noPaths("", "**", "ab", "a*", "*a", ".1", "^1", "?1", "[1=1]", "~", "a.1b", "a.1*");
    }

    private static void anyNumberOfSteps() {
        gives(LINKED, "a", 1);
        gives(LINKED, "a.1", 2);
        gives(LINKED, "a.1.1", 4);
        gives(LINKED, "e.3.1~^1~", 15);
        gives(LINKED, "a.0.1", 0);
        gives(LINKED, "a^3.3?3.1~?1", 0);
        gives(LINKED, "*?0?2^1.1", 2 + 4 + 8);
        gives(NUMBERS, "*[2>-1][2<6]", 1 + 128);
        for (char sign = 33; sign <= 126; sign++) {
            if (".^?".indexOf(sign) < 0) {
                noPaths("a" + sign, "a" + sign + "1");
            }
            if (".^~?[".indexOf(sign) < 0) {
                noPaths("a.1" + sign, "a.1" + sign + "1");
            }
        }
        noPaths("a.", "a^", "a?", "a[", "a.1.", "a.1^", "a.1?", "a.1[", "a.11", "a]1", "a.0.0.4");
    }

    /** The digits 0 .. 3 alone may follow; whatever the set is. */
    private static void noOtherDigit(String before, String behind) {
        for (char sign = 33; sign <= 126; sign++) {
            if (sign < '0' || sign > '3') {
                noPaths("a" + before + sign + behind, "a.0" + before + sign + behind);
            }
        }
    }

    private static void thatFieldOfTheseRefers() {
        gives(LINKED, "a.1", 2);
        gives(LINKED, "a.0", 0);
        gives(LINKED, "h.1", 0);
        gives(LINKED, "*.1", 2 + 4 + 8);
        gives(LINKED, "*.3", 1);
        gives(LINKED, "g.0", 64);
        gives(LINKED, "*.2", 0);
        Scene last = memory -> memory.write(0, 11, 2, 2, 11);
        gives(last, "l.2", 2048);
        gives(last, "*.2", 2048);
        noOtherDigit(".", "");
        noPaths("a..1", "a.-1", "a.01", "a.1.4", "*.");
    }

    private static void refersToOneOfThese() {
        gives(LINKED, "b^1", 1 + 8);
        gives(LINKED, "a^3", 16 + 32);
        gives(LINKED, "a^3.3", 1);
        gives(LINKED, "*^1", 1 + 2 + 4 + 8);
        gives(LINKED, "g^0", 64);
        gives(LINKED, "c^0", 0);
        gives(LINKED, "*^2", 0);
        gives(LINKED, "a.0^1", 0);
        gives(memory -> memory.write(0, 11, 2, 2, 11), "l^2", 2048);
        // A number is no reference, though the object has the same one.
        gives(LINKED, "b^1?0", 1 + 8);
        noOtherDigit("^", "");
        noPaths("a^^1", "a^-1", "a^01", "*^");
    }

    private static void againAndAgain() {
        gives(LINKED, "a.1~", 1 + 2 + 4 + 8);
        gives(LINKED, "b.1~", 2 + 4 + 8);
        gives(LINKED, "h.1~", 128);
        gives(LINKED, "d^1~", 1 + 2 + 4 + 8);
        gives(LINKED, "a^1~", 1);
        gives(LINKED, "a^3~", 1 + 16 + 32);
        gives(LINKED, "a^3~.1", 2);
        gives(LINKED, "*.1~", ALL);
        gives(LINKED, "a.0.1~", 0);
        gives(LINKED, "g.0~", 64);
        Scene upwards = memory -> {
            for (int object = 0; object < 11; object++) {
                memory.write(0, object, 2, 2, object + 1);
            }
        };
        gives(upwards, "a.2~", ALL);
        gives(upwards, "l^2~", ALL);
        gives(upwards, "l.2~", 2048);
        Scene round = memory -> {
            for (int object = 0; object < 12; object++) {
                memory.write(0, object, 2, 2, (object + 11) % 12);
            }
        };
        gives(round, "l.2~", ALL);
        gives(round, "a^2~", ALL);
        noPaths("a~", "*~", "a.~", "a.~1", "a^~", "a.1~~", "a^1~~", "a?1~", "a[1=1]~", "l.0~0");
    }

    private static void aNumberThatIsSo() {
        gives(NUMBERS, "*[2=5]", 1);
        gives(NUMBERS, "*[2<5]", 2 + 16 + 128);
        gives(NUMBERS, "*[2>5]", 4 + 8 + 32);
        gives(NUMBERS, "*[2=-5]", 2);
        gives(NUMBERS, "*[2<-5]", 16);
        gives(NUMBERS, "*[2>-5]", 1 + 4 + 8 + 32 + 128);
        gives(NUMBERS, "*[2=-0005]", 2);
        gives(NUMBERS, "*[1=0005]", 256);
        gives(NUMBERS, "*[2=0]", 128);
        gives(NUMBERS, "*[2=-0]", 128);
        gives(NUMBERS, "*[2=0000]", 128);
        gives(NUMBERS, "*[2>9998]", 4 + 8 + 32);
        gives(NUMBERS, "*[2=9999]", 4);
        gives(NUMBERS, "*[2>9999]", 8 + 32);
        gives(NUMBERS, "*[2<9999]", 1 + 2 + 16 + 128);
        gives(NUMBERS, "*[2<-9999]", 16);
        gives(NUMBERS, "*[2>-9999]", 1 + 2 + 4 + 8 + 32 + 128);
        gives(NUMBERS, "a[2=5]", 1);
        gives(NUMBERS, "b[2=5]", 0);
        gives(NUMBERS, "g[2=5]", 0);
        gives(NUMBERS, "l[2=0]", 0);
        gives(NUMBERS, "a[0=0]", 0);
        gives(NUMBERS, "a[3=0]", 0);
        noNumberThatIsSo();
    }

    private static void noNumberThatIsSo() {
        noOtherDigit("[", "=1]");
        for (char sign = 33; sign <= 126; sign++) {
            if (sign < '<' || sign > '>') {
                noPaths("a[2" + sign + "1]", "a[2" + sign + "=1]");
            }
            if (sign < '0' || sign > '9') {
                noPaths("a[2=" + sign + "]", "a[2=-" + sign + "]");
                noPaths("a[2=1" + sign + "1]", "a[2=+" + sign + "1]");
            }
            if (sign != ']') {
                noPaths("a[2=1" + sign, "a[2=1234" + sign);
            }
        }
        noPaths("a[2", "a[2=", "a[2=-", "a[2=-]", "a[2=]", "a[2=1", "a[2=--1]", "a[2=1-]");
        noPaths("a[2=12345]", "a[2=-12345]", "a[2=00000]", "a[2==1]", "a[2<=1]", "a[=1]");
        noPaths("a[2=1]]", "a[[2=1]", "a[21]", "a[2]", "a[]", "a[2=1]1", "a2=1]");
    }

    private static void isNothing() {
        Scene scene = memory -> {
            memory.write(0, 0, 3, 1, 0);
            memory.write(0, 1, 3, 2, 0);
            memory.write(0, 2, 3, 1, 1);
            memory.write(0, 2, 3, 0, 1);
        };
        gives(scene, "*?3", ALL - 3);
        gives(scene, "*?0", ALL);
        gives(scene, "a?3", 0);
        gives(scene, "b?3", 0);
        gives(scene, "c?3", 4);
        gives(scene, "l?3", 2048);
        gives(scene, "*?3?0^3", 0);
        gives(scene, "a?3?0", 0);
        noOtherDigit("?", "");
        noPaths("a??1", "a?-1", "a?01", "a?1~", "*?");
    }

    private static void theSum() {
        gives(Scenes.NEW, "a", 1);
        gives(Scenes.NEW, "l", 2048);
        gives(Scenes.NEW, "*", ALL);
        gives(Scenes.NEW, "a.0", 0);
        gives(Scenes.NEW, "*[0=0]", 0);
        for (int set = 0; set <= ALL; set += 13) {
            int marked = set;
            Scene scene = memory -> {
                for (int object = 0; object < 12; object++) {
                    memory.write(0, object, 1, 1, marked >> object & 1);
                }
            };
            gives(scene, "*[1=1]", set);
        }
        gives(NUMBERS, "*[1<6]", 256);
    }
}
