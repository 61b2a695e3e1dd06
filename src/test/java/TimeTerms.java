import java.util.Set;
import java.util.TreeSet;

/** The first terms: objects, values, branches and writes, what is read, and what is trimmed. */
final class TimeTerms {
    private TimeTerms() {
    }

    static void tests(Sentences terms) {
        terms.test("OBJECTS are 0 .. 11, each with FIELDS 0 .. 3", TimeTerms::objectsAndFields);
        terms.test("A VALUE is NOTHING, a NUMBER n, or a REFERENCE to an object",
                TimeTerms::values);
        terms.test("The CLOCK is a moment, 0 at first", TimeTerms::theClock);
        terms.test("BRANCHES are 0, 1, .. (at most 6): branch 0 is there at first; each other one "
                + "has a PARENT and a FORK, a moment", TimeTerms::branches);
        terms.test("A branch is OPEN (at first) or not", TimeTerms::openAtFirst);
        terms.test("The HORIZON is a moment, 0 at first", TimeTerms::theHorizon);
        terms.test("A WRITE has a branch, a moment, an object, a field and a value; each one has a "
                + "moment of its own: the clock grows by 1, and that is it",
                TimeTerms::aMomentOfItsOwn);
        terms.test("At most 120 are there", TimeTerms::atMost120);
        terms.test("On a branch b, at a moment m, a write is IN SIGHT when it is one of b, not "
                + "later than m", TimeTerms::inSightOnItsBranch);
        terms.test("or, if b has a parent, when it is in sight on that one, at m or the fork, "
                + "whichever is earlier", TimeTerms::inSightOnTheParent);
        terms.test("READING a field there gives the latest write to it that is in sight, and its "
                + "value", TimeTerms::theLatestInSight);
        terms.test("NOTHING without one", TimeTerms::nothingWithoutOne);
        readingTests(terms);
        terms.test("TO TRIM at a moment: the horizon becomes that", TimeTerms::horizonBecomesThat);
        terms.test("then all writes go that no reading gives, of any field, on any branch at any "
                + "moment at which that can be read", TimeTerms::whatNoReadingGivesGoes);
    }

    private static void readingTests(Sentences terms) {
        Readable.Reading read = (memory, branch, moment) -> memory.read(branch, moment, 0, 0, 0);
        terms.test("A branch can be READ at a moment when it is open",
                () -> Readable.onlyWhenItIsOpen(read));
        terms.test("and that is not before its fork (for branch 0: 0)",
                () -> Readable.notBeforeItsFork(read));
        terms.test("not before the horizon", () -> Readable.notBeforeTheHorizon(read));
        terms.test("and not after the clock", () -> Readable.notAfterTheClock(read));
    }

    private static void objectsAndFields() {
        Past past = new Past();
        int[][] corners = {{0, 0}, {0, 3}, {11, 0}, {11, 3}};
        for (int corner = 0; corner < 4; corner++) {
            past.write(0, corners[corner][0], corners[corner][1], 1, 10 + corner);
        }
        for (int corner = 0; corner < 4; corner++) {
            Check.due("corner", 10 + corner,
                    past.read(0, 4, corners[corner][0], corners[corner][1], 1));
        }
        Check.refusedOutside("object", Check.INDEX, 0, 11, Scenes.NEW,
                (memory, object) -> memory.write(0, object, 3, 1, 1));
        Check.refusedOutside("field", Check.INDEX, 0, 3, Scenes.NEW,
                (memory, field) -> memory.write(0, 11, field, 1, 1));
        Check.refusedOutside("object that is referred to", Check.ARGUMENT, 0, 11, Scenes.NEW,
                (memory, object) -> memory.write(0, 0, 0, 2, object));
    }

    /** The values that are nearest to each other are no two the same. */
    private static void values() {
        int[][] values = {{0, 0}, {1, 0}, {2, 0}, {1, 1}, {2, 1}, {1, -1}, {1, 11}, {2, 11},
            {1, Integer.MIN_VALUE}, {1, Integer.MAX_VALUE}};
        for (int[] first : values) {
            for (int[] second : values) {
                Past past = Scenes.branches(1).past();
                past.write(0, 6, 2, first[0], first[1]);
                past.write(1, 6, 2, second[0], second[1]);
                Check.due("differs", first == second ? -1 : 26, past.differs(0, 1, 0));
                Check.due("kind", first[0], past.read(0, 2, 6, 2, 0));
                Check.due("content", first[1], past.read(0, 2, 6, 2, 1));
            }
        }
    }

    private static void theClock() {
        Past past = new Past();
        Check.due("at first", 0, past.state(0));
        Check.due("it can be read", 0, past.read(0, 0, 0, 0, 0));
        Check.due("the first write", 1, past.write(0, 0, 0, 1, 1));
        Check.due("one on", 1, past.state(0));
        Check.refused("nothing is behind it", Check.ARGUMENT, Scenes.NEW,
                memory -> memory.read(0, 1, 0, 0, 0));
    }

    private static void branches() {
        Past past = Scenes.writes(3).past();
        Check.due("branch 0", 1, past.state(3));
        for (int number = 1; number < 6; number++) {
            int parent = number / 2;
            int fork = Math.min(number, 3);
            Check.due("number", number, past.branch(parent, fork));
            Check.due("parent", parent, past.about(number, 1));
            Check.due("fork", fork, past.about(number, 2));
        }
        Check.due("at most 6", "throws.IllegalStateException", Answer.of(() -> past.branch(0, 3)));
        Check.due("no branch 6", "throws.IndexOutOfBoundsException",
                Answer.of(() -> past.about(6, 0)));
    }

    private static void openAtFirst() {
        Past past = Scenes.SIX.past();
        for (int branch = 0; branch < 6; branch++) {
            Check.due("at first", 1, past.about(branch, 0));
        }
        past.close(3);
        for (int branch = 0; branch < 6; branch++) {
            Check.due("or not", branch == 3 ? 0 : 1, past.about(branch, 0));
        }
    }

    private static void theHorizon() {
        Past past = new Past();
        Check.due("at first", 0, past.state(1));
        past.write(0, 0, 0, 1, 1);
        Check.due("a write does not move it", 0, past.state(1));
        Check.due("it can be read", 0, past.read(0, 0, 0, 0, 0));
        Check.refused("nothing is before it", Check.ARGUMENT, Scenes.NEW,
                memory -> memory.read(0, -1, 0, 0, 0));
    }

    private static void aMomentOfItsOwn() {
        Past past = Scenes.branches(1).past();
        for (int moment = 1; moment <= 10; moment++) {
            Check.due("write", moment, past.write(moment % 2, moment, moment % 4, 1, moment));
            Check.due("clock", moment, past.state(0));
        }
        for (int moment = 1; moment <= 10; moment++) {
            int branch = moment % 2;
            Check.due("moment", moment, past.read(branch, 10, moment, moment % 4, 2));
            Check.due("value", moment, past.read(branch, 10, moment, moment % 4, 1));
            Check.due("branch", -1, past.read(1 - branch, 10, moment, moment % 4, 2));
        }
        Check.due("a join writes, too", 0, past.join(1, 0));
        for (int carried = 0; carried < 5; carried++) {
            int object = 2 * carried + 1;
            Check.due("by objects", 11 + carried, past.read(0, 15, object, object % 4, 2));
        }
        Check.due("clock", 15, past.state(0));
    }

    private static void atMost120() {
        Past past = Scenes.writes(119).past();
        Check.due("119", 119, past.state(2));
        Check.due("the last one", 120, past.write(0, 5, 1, 1, 1));
        Check.due("120", 120, past.state(2));
        Check.refused("one more", Check.UNSUPPORTED, Scenes.FULL,
                memory -> memory.write(0, 0, 0, 0, 0));
        Check.due("the first one is read still", 1, past.read(0, 1, 0, 0, 1));
        past.trim(3);
        Check.due("118", 118, past.state(2));
        past.write(0, 5, 1, 1, 2);
        past.write(0, 5, 1, 1, 3);
        Check.due("120 again", 120, past.state(2));
        Check.due("one more", "throws.UnsupportedOperationException",
                Answer.of(() -> past.write(0, 0, 0, 0, 0)));
    }

    private static void inSightOnItsBranch() {
        Past past = Scenes.branches(1).past();
        past.write(0, 4, 0, 1, 0);
        past.write(1, 3, 0, 1, 30);
        past.write(0, 4, 0, 1, 0);
        Check.due("one before it", -1, past.read(1, 1, 3, 0, 2));
        Check.due("at it", 2, past.read(1, 2, 3, 0, 2));
        Check.due("one behind it", 2, past.read(1, 3, 3, 0, 2));
        Check.due("not on the parent", -1, past.read(0, 3, 3, 0, 2));
        past.branch(0, 3);
        Check.due("not on the parent's other child", -1, past.read(2, 3, 3, 0, 2));
    }

    private static void inSightOnTheParent() {
        Past past = new Past();
        for (int object = 1; object <= 6; object++) {
            past.write(0, object, 0, 1, object);
        }
        past.branch(0, 3);
        past.branch(1, 5);
        past.write(1, 7, 0, 1, 7);
        past.branch(1, 7);
        past.write(0, 8, 0, 1, 8);
        for (int object = 1; object <= 8; object++) {
            // Objects 1 to 3 were written before branch 1 left; 7 on it, before branch 3 left.
            int shared = object <= 3 ? object : -1;
            boolean own = object == 7;
            Check.due("on 1: " + object, own ? 7 : shared, past.read(1, 8, object, 0, 2));
            Check.due("on 2: " + object, shared, past.read(2, 8, object, 0, 2));
            Check.due("on 3: " + object, own ? 7 : shared, past.read(3, 8, object, 0, 2));
            Check.due("on 0: " + object, own ? -1 : object, past.read(0, 8, object, 0, 2));
            Check.due("on 1 at its fork: " + object, shared, past.read(1, 3, object, 0, 2));
        }
    }

    private static void theLatestInSight() {
        Past past = Scenes.writes(4).past();
        past.branch(0, 3);
        past.branch(1, 4);
        past.write(0, 0, 0, 1, 50);
        past.write(1, 0, 0, 1, 60);
        past.write(2, 0, 0, 2, 7);
        // Of each row: the branch, the moment, the moment of the write, its kind.
        int[][] moments = {{0, 2, 2, 1}, {0, 4, 4, 1}, {0, 5, 5, 1}, {0, 7, 5, 1}, {1, 3, 3, 1},
            {1, 5, 3, 1}, {1, 6, 6, 1}, {1, 7, 6, 1}, {2, 4, 3, 1}, {2, 6, 3, 1}, {2, 7, 7, 2}};
        for (int[] row : moments) {
            Check.due("on " + row[0] + " at " + row[1], row[2], past.read(row[0], row[1], 0, 0, 2));
            Check.due("its kind", row[3], past.read(row[0], row[1], 0, 0, 0));
        }
        Check.due("its value", 60, past.read(1, 7, 0, 0, 1));
        Check.due("its value", 7, past.read(2, 7, 0, 0, 1));
        past.write(2, 0, 0, 0, 7);
        Check.due("nothing can be the latest", 8, past.read(2, 8, 0, 0, 2));
        Check.due("its kind", 0, past.read(2, 8, 0, 0, 0));
    }

    private static void nothingWithoutOne() {
        Past past = Scenes.writes(2).past();
        past.branch(0, 0);
        for (int what = 0; what < 3; what++) {
            int nothing = what == 2 ? -1 : 0;
            Check.due("before the first one", nothing, past.read(0, 0, 0, 0, what));
            Check.due("another field", nothing, past.read(0, 2, 0, 1, what));
            Check.due("on a branch from before it", nothing, past.read(1, 2, 0, 0, what));
        }
    }

    private static void horizonBecomesThat() {
        Past past = Scenes.writes(5).past();
        for (int moment : new int[] {0, 1, 1, 4, 5}) {
            past.trim(moment);
            Check.due("horizon", moment, past.state(1));
        }
    }

    private static void whatNoReadingGivesGoes() {
        // All kinds of fates: the number of each write says what becomes of it.
        Scene scene = memory -> {
            memory.write(0, 0, 0, 1, 1);
            memory.write(0, 0, 0, 1, 2);
            memory.branch(0, 2);
            memory.write(0, 0, 0, 0, 3);
            memory.write(1, 1, 0, 1, 4);
            memory.branch(1, 4);
            memory.write(1, 1, 0, 1, 5);
            memory.write(0, 0, 0, 1, 6);
            memory.write(2, 0, 0, 2, 7);
            memory.write(0, 0, 0, 1, 8);
        };
        areLeft(scene, 0, 8, 1, 2, 3, 4, 5, 6, 7, 8);
        areLeft(scene, 2, 8, 2, 3, 4, 5, 6, 7, 8);
        areLeft(scene, 3, 8, 2, 3, 4, 5, 6, 7, 8);
        areLeft(scene, 6, 8, 2, 4, 5, 6, 7, 8);
        areLeft(scene, 7, 8, 2, 4, 5, 6, 7, 8);
        areLeft(scene, 8, 8, 2, 4, 5, 7, 8);
        areLeft(scene.then(memory -> memory.close(0)), 0, 8, 2, 4, 5, 7);
        areLeft(scene.then(memory -> memory.close(1)), 6, 8, 2, 4, 6, 7, 8);
        areLeft(scene.then(memory -> memory.close(1)), 8, 8, 4, 7, 8);
        areLeft(scene.then(memory -> memory.close(2)), 8, 8, 2, 5, 8);
    }

    /** Behind a trim at a moment, just the writes of these moments are there. */
    private static void areLeft(Scene scene, int moment, int all, int... left) {
        Past past = scene.past();
        Check.due("went at " + moment, all - left.length, past.trim(moment));
        Check.due("left at " + moment, left.length, past.state(2));
        Set<Integer> given = new TreeSet<>();
        for (int branch = 0; branch < 3; branch++) {
            for (int object = 0; object < 2; object++) {
                for (int k = 0; k < left.length; k++) {
                    given.add(past.history(branch, object, 0, k));
                }
            }
        }
        given.remove(-1);
        Set<Integer> want = new TreeSet<>();
        for (int each : left) {
            want.add(each);
        }
        Check.due("given at " + moment, want, given);
    }
}
