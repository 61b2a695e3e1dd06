/** Promise 6: history. */
public final class Promise06HistoryTest {
    /** Writes to field 2 of object 3 and beside it; branches leave at 3, 2, 0 and 4. */
    private static final Scene WRITTEN = memory -> {
        memory.write(0, 3, 2, 1, 1);
        memory.write(0, 3, 1, 1, 1);
        memory.write(0, 3, 2, 0, 0);
        memory.write(0, 3, 2, 0, 0);
        memory.branch(0, 3);
        memory.branch(0, 2);
        memory.branch(0, 0);
        memory.branch(0, 4);
        memory.write(1, 3, 2, 1, 1);
        memory.write(2, 2, 2, 1, 1);
    };

    private Promise06HistoryTest() {
    }

    public static void main(String[] args) {
        Sentences promise = new Sentences("Promise 6: history");
        promise.test("Of the writes that readings of a field on a branch give, at moments at which "
                + "that can be read, the k-th one (from 0) by their moments: its moment",
                Promise06HistoryTest::theKthOne);
        promise.test("NONE when there is none", Promise06HistoryTest::noneWhenThereIsNone);
        promise.test("IndexOutOfBoundsException when there is no such branch, object or field",
                Promise06HistoryTest::noSuchBranchObjectOrField);
        promise.end();
    }

    /** Of field 2 of object 3. */
    private static void isHistory(Scene scene, int branch, int... moments) {
        Past past = scene.past();
        for (int k = 0; k < moments.length; k++) {
            Check.due("history " + branch + " " + k, moments[k], past.history(branch, 3, 2, k));
        }
        isNone(past, branch, moments.length);
    }

    private static void isNone(Past past, int branch, int count) {
        int[] outside = {count, count + 1, -1, Integer.MIN_VALUE, Integer.MAX_VALUE};
        for (int k : outside) {
            Check.due("history " + branch + " " + k, -1, past.history(branch, 3, 2, k));
        }
    }

    private static void theKthOne() {
        isHistory(WRITTEN, 0, 1, 3, 4);
        isHistory(WRITTEN, 1, 3, 5);
        isHistory(WRITTEN, 2, 1);
        isHistory(WRITTEN, 4, 4);
        fromTheHorizon();
        fromAGrandparent();
    }

    private static void fromTheHorizon() {
        Scene scene = memory -> {
            memory.write(0, 3, 2, 1, 1);
            memory.write(0, 3, 2, 1, 2);
            memory.branch(0, 1);
            memory.write(0, 3, 2, 1, 3);
            memory.write(1, 3, 2, 1, 4);
            memory.write(1, 3, 2, 1, 5);
        };
        isHistory(scene, 0, 1, 2, 3);
        isHistory(scene, 1, 1, 4, 5);
        Scene at2 = scene.then(memory -> memory.trim(2));
        isHistory(at2, 0, 2, 3);
        isHistory(at2, 1, 1, 4, 5);
        Scene at3 = scene.then(memory -> memory.trim(3));
        isHistory(at3, 0, 3);
        isHistory(at3, 1, 1, 4, 5);
        Scene at4 = scene.then(memory -> memory.trim(4));
        isHistory(at4, 0, 3);
        isHistory(at4, 1, 4, 5);
        Scene at5 = scene.then(memory -> memory.trim(5));
        isHistory(at5, 0, 3);
        isHistory(at5, 1, 5);
    }

    /** Branch 0 keeps writes that the grandchild needs; its own history does not name them. */
    private static void fromAGrandparent() {
        Scene scene = memory -> {
            memory.write(0, 3, 2, 1, 1);
            memory.branch(0, 1);
            memory.branch(1, 1);
            memory.write(0, 3, 2, 1, 2);
            memory.write(1, 3, 2, 1, 3);
            memory.trim(3);
        };
        isHistory(scene, 0, 2);
        isHistory(scene, 1, 3);
        isHistory(scene, 2, 1);
    }

    private static void noneWhenThereIsNone() {
        isHistory(Scenes.NEW, 0);
        isHistory(WRITTEN, 3);
        isHistory(WRITTEN.then(memory -> memory.close(1)), 1);
        Past past = Scenes.FULL.past();
        Check.due("the last of 120", 120, past.history(0, 0, 0, 119));
        Check.due("behind the last of 120", -1, past.history(0, 0, 0, 120));
        Check.due("another field", -1, past.history(0, 0, 1, 0));
        Check.due("another object", -1, past.history(0, 1, 0, 0));
    }

    private static void noSuchBranchObjectOrField() {
        Scene closed = WRITTEN.then(memory -> memory.close(4));
        Check.With ofBranch = (memory, branch) -> memory.history(branch, 3, 2, 0);
        Check.allowedWithin("branch", 0, 4, closed, ofBranch);
        Check.refusedOutside("branch", Check.INDEX, 0, 4, closed, ofBranch);
        Check.With ofObject = (memory, object) -> memory.history(0, object, 2, -1);
        Check.allowedWithin("object", 0, 11, closed, ofObject);
        Check.refusedOutside("object", Check.INDEX, 0, 11, closed, ofObject);
        Check.With ofField = (memory, field) -> memory.history(4, 3, field, 9);
        Check.allowedWithin("field", 0, 3, closed, ofField);
        Check.refusedOutside("field", Check.INDEX, 0, 3, closed, ofField);
    }
}
