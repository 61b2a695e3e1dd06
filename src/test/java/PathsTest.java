/** Promises 11 (reach), 12 (type), 13 (erase) and 14 (find). */
public final class PathsTest {
    private static final int ALL = 4095;

    private PathsTest() {
    }

    public static void main(String[] args) {
        reach();
        reachRefused();
        type();
        typeRefused();
        erase();
        starts();
        moves();
        repeats();
        comparisons();
        nothings();
        longPaths();
        noPaths();
        findRefused();
        findThen();
        Check.end("PathsTest");
    }

    private static void reach() {
        BranchedPast past = new BranchedPast();
        for (int object = 0; object < 11; object++) {
            past.write(0, object, (11 - object) % 4, 2, object + 1);
        }
        Check.due("all", ALL, past.reach(0, 11, 0));
        Check.due("the last one", 2048, past.reach(0, 11, 11));
        Check.due("as it was", 7, past.reach(0, 2, 0));
        past.write(0, 11, 0, 2, 8);
        Check.due("round", 256 + 512 + 1024 + 2048, past.reach(0, 12, 10));
        past.write(0, 8, 3, 1, 9);
        Check.due("a number leads nowhere", 256, past.reach(0, 13, 8));
        past.write(0, 8, 0, 2, 2);
        past.write(0, 8, 1, 2, 8);
        past.write(0, 3, 0, 0, 0);
        Check.due("backwards", 256 + 4 + 8, past.reach(0, 16, 8));
        past.branch(0, 2);
        Check.due("on the branch", 7, past.reach(1, 16, 0));
    }

    private static void reachRefused() {
        BranchedPast past = new BranchedPast();
        past.branch(0, 0);
        past.close(1);
        Check.refused("no branch 2", Check.INDEX, past, () -> past.reach(2, 1, 0));
        Check.refused("no branch -1", Check.INDEX, past, () -> past.reach(-1, 0, 0));
        Check.refused("no object 12", Check.INDEX, past, () -> past.reach(0, 1, 12));
        Check.refused("no object -1", Check.INDEX, past, () -> past.reach(1, 0, -1));
        Check.refused("after the clock", Check.ARGUMENT, past, () -> past.reach(0, 1, 0));
        Check.refused("before 0", Check.ARGUMENT, past, () -> past.reach(0, -1, 0));
        Check.refused("closed", Check.ARGUMENT, past, () -> past.reach(1, 0, 0));
    }

    private static void type() {
        BranchedPast past = linked();
        Check.due("no bytes", 0, past.type(0));
        Check.due("four", 4, past.type(Text.word("e.3.")));
        Check.due("one, high", 5, past.type('1' << 24));
        Check.due("two, apart", 7, past.type('.' << 24 | '1'));
        Check.due("two, in the middle", 9, past.type('^' << 16 | '1' << 8));
        Check.due("the order", 2, past.find(0, 8));
        past.erase();
        Check.due("the edges", 4, past.type(33 << 24 | 126 << 16 | 33 << 8 | 126));
    }

    private static void typeRefused() {
        BranchedPast past = new BranchedPast();
        past.type(Text.word("a.1"));
        Check.refused("32", Check.ARGUMENT, past, () -> past.type(32));
        Check.refused("127", Check.ARGUMENT, past, () -> past.type(127));
        Check.refused("1, behind good ones", Check.ARGUMENT, past, () -> past.type(0x61610001));
        Check.refused("128, the highest", Check.ARGUMENT, past, () -> past.type(0x80616161));
        Check.refused("-1", Check.ARGUMENT, past, () -> past.type(-1));
        Text.put(past, "a".repeat(29));
        Check.refused("33", Check.STATE, past, () -> past.type(0x61616161));
        Check.due("32", 32, past.type(0x61006161));
        Check.refused("one more", Check.STATE, past, () -> past.type('a'));
        Check.refused("one more, a bad one", Check.ARGUMENT, past, () -> past.type(0x61000020));
        Check.due("no more", 32, past.type(0));
    }

    private static void erase() {
        BranchedPast past = new BranchedPast();
        past.erase();
        Text.put(past, "a".repeat(32));
        past.erase();
        Check.due("empty", 0, past.type(0));
        Check.due("no path", -1, past.find(0, 0));
        past.type('b');
        Check.due("a new one", 2, past.find(0, 0));
        Check.due("it stays", 2, past.find(0, 0));
    }

    private static void gives(BranchedPast past, String path, int set) {
        Check.due("length of " + path, path.length(), Text.put(past, path));
        Check.due(path, set, past.find(0, past.state(0)));
    }

    private static void starts() {
        BranchedPast past = new BranchedPast();
        for (int object = 0; object < 12; object++) {
            gives(past, "" + (char) ('a' + object), 1 << object);
        }
        gives(past, "*", ALL);
    }

    /** 0 -> 1 -> 2 -> 3 -> 1 by field 1; 4 and 5 -> 0 by field 3; 6 -> 6 by field 0. */
    private static BranchedPast linked() {
        BranchedPast past = new BranchedPast();
        past.write(0, 0, 1, 2, 1);
        past.write(0, 1, 1, 2, 2);
        past.write(0, 2, 1, 2, 3);
        past.write(0, 3, 1, 2, 1);
        past.write(0, 4, 3, 2, 0);
        past.write(0, 5, 3, 2, 0);
        past.write(0, 6, 0, 2, 6);
        past.write(0, 7, 1, 1, 1);
        return past;
    }

    private static void moves() {
        BranchedPast past = linked();
        gives(past, "a.1", 2);
        gives(past, "a.1.1", 4);
        gives(past, "a.0", 0);
        gives(past, "a.0.1", 0);
        gives(past, "h.1", 0);
        gives(past, "*.1", 14);
        gives(past, "b^1", 9);
        gives(past, "a^3", 48);
        gives(past, "a^3.3", 1);
        gives(past, "*^1", 15);
        gives(past, "g.0", 64);
        gives(past, "g^0", 64);
        gives(past, "c^0", 0);
    }

    private static void repeats() {
        BranchedPast past = linked();
        gives(past, "a.1~", 15);
        gives(past, "b.1~", 14);
        gives(past, "h.1~", 128);
        gives(past, "d^1~", 15);
        gives(past, "a^1~", 1);
        gives(past, "a^3~.1", 2);
        gives(past, "*.1~", ALL);
        gives(past, "e.3.1~^1~", 15);
        for (int object = 0; object < 11; object++) {
            past.write(0, object, 2, 2, object + 1);
        }
        gives(past, "a.2~", ALL);
        gives(past, "l^2~", ALL);
        gives(past, "l.2~", 2048);
        for (int object = 0; object < 12; object++) {
            past.write(0, object, 2, 2, (object + 11) % 12);
        }
        gives(past, "l.2~", ALL);
        gives(past, "a^2~", ALL);
    }

    private static void comparisons() {
        BranchedPast past = new BranchedPast();
        past.write(0, 0, 2, 1, 5);
        past.write(0, 1, 2, 1, -5);
        past.write(0, 2, 2, 1, 9999);
        past.write(0, 3, 2, 1, 10000);
        past.write(0, 4, 2, 1, Integer.MIN_VALUE);
        past.write(0, 5, 2, 1, Integer.MAX_VALUE);
        past.write(0, 6, 2, 2, 5);
        past.write(0, 7, 2, 1, 0);
        past.write(0, 8, 1, 1, 5);
        gives(past, "*[2=5]", 1);
        gives(past, "*[2<5]", 2 + 16 + 128);
        gives(past, "*[2>5]", 4 + 8 + 32);
        gives(past, "*[2=-5]", 2);
        gives(past, "*[2=-0005]", 2);
        gives(past, "*[2=0]", 128);
        gives(past, "*[2=-0]", 128);
        gives(past, "*[2>9998]", 4 + 8 + 32);
        gives(past, "*[2>9999]", 8 + 32);
        gives(past, "*[2<-9999]", 16);
        gives(past, "*[2>-1][2<6]", 1 + 128);
        gives(past, "a[2=5]", 1);
        gives(past, "b[2=5]", 0);
        gives(past, "*[1=0005]", 256);
    }

    private static void nothings() {
        BranchedPast past = new BranchedPast();
        past.write(0, 0, 3, 1, 0);
        past.write(0, 1, 3, 2, 0);
        past.write(0, 2, 3, 1, 1);
        past.write(0, 2, 3, 0, 1);
        gives(past, "*?3", ALL - 3);
        gives(past, "*?0", ALL);
        gives(past, "a?3", 0);
        gives(past, "c?3", 4);
        gives(past, "*?3?0^3", 0);
    }

    private static void longPaths() {
        BranchedPast past = linked();
        gives(past, "a.1.1.1.1.1.1.1.1.1.1.1.1.1.1.1~", 14);
        gives(past, "*[0<-9999][1<-9999][2<-9999]?0~?", -1);
        gives(past, "*[1=1][1=01][1=001][1=0001]?0?2^", -1);
        gives(past, "*[1=1][1=01][1=001][1=0001]?0?2", 128);
        // The text is full, and the path stops in the middle of a step.
        gives(past, "a.1.1.1.1.1.1.1.1.1.1.1.1.1[1=12", -1);
        gives(past, "a.1.1.1.1.1.1.1.1.1.1.1.1.1.1[1=", -1);
        gives(past, "a.1.1.1.1.1.1.1.1.1.1.1.1.1.1.1.", -1);
    }

    private static void noPaths() {
        String[] wrong = {"m", "A", "`", "0", "**", "ab", "a*", "a.", "a^", "a?", "a[", "a.4", "a^4",
            "a?4", "a[4=1]", "a.9", "a./", "a.a", ".1", "~", "a~", "a.1~~", "a?1~", "a[1=1]~",
            "a[1", "a[1=", "a[1=]", "a[1=1", "a[1=-]", "a[1=-", "a[1=--1]", "a[1=12345]",
            "a[1=-12345]", "a[1=+1]", "a[1!1]", "a[1==1]", "a[1<=1]", "a[=1]", "a[1;1]", "a[1?1]",
            "a[1=1-]", "a[1=1a]", "a]1", "a[1=1]]", "a.1m", "a.1.", "a.11", "a!1", "a,1", "a.1!",
            "a[1=:]", "a[1=/]", "l.0~0", "a.-", "*.~1", "(a)"};
        BranchedPast past = linked();
        gives(past, "", -1);
        for (String path : wrong) {
            gives(past, path, -1);
        }
        // No path, though the set is empty before it is seen.
        gives(past, "a.0.0.4", -1);
    }

    private static void findRefused() {
        BranchedPast past = linked();
        past.branch(0, 3);
        past.branch(0, 4);
        past.close(2);
        for (String path : new String[] {"a.1", "no"}) {
            Text.put(past, path);
            Check.refused("no branch 3", Check.INDEX, past, () -> past.find(3, 99));
            Check.refused("no branch -1", Check.INDEX, past, () -> past.find(-1, 0));
            Check.refused("after the clock", Check.ARGUMENT, past, () -> past.find(0, 9));
            Check.refused("before the fork", Check.ARGUMENT, past, () -> past.find(1, 2));
            Check.refused("closed", Check.ARGUMENT, past, () -> past.find(2, 8));
        }
        past.trim(5);
        Check.refused("before the horizon", Check.ARGUMENT, past, () -> past.find(0, 4));
    }

    private static void findThen() {
        BranchedPast past = linked();
        past.branch(0, 2);
        past.write(1, 2, 1, 2, 9);
        Text.put(past, "a.1~");
        Check.due("at 0", 1, past.find(0, 0));
        Check.due("at 1", 3, past.find(0, 1));
        Check.due("at 9", 15, past.find(0, 9));
        Check.due("on the branch at 8", 7, past.find(1, 8));
        Check.due("on the branch at 9", 7 + 512, past.find(1, 9));
    }
}
