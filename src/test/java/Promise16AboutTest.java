/** Promise 16: about. */
public final class Promise16AboutTest {
    /** 0 -> 1 at 2, 1 -> 2 at 3; 3 writes on 0, 2 on 1, which is closed, none on 2. */
    private static final Scene USED = Scenes.writes(3).then(memory -> {
        memory.branch(0, 2);
        memory.branch(1, 3);
        memory.write(1, 1, 1, 1, 1);
        memory.write(1, 1, 1, 1, 2);
        memory.close(1);
    });

    private Promise16AboutTest() {
    }

    public static void main(String[] args) {
        Sentences promise = new Sentences("Promise 16: about");
        promise.test("Of a branch: what = 0 whether it is open (1 or 0)", () -> isTold(0, 1, 0, 1));
        promise.test("1 its parent (NONE for branch 0)", () -> isTold(1, -1, 0, 1));
        promise.test("2 its fork (0 for branch 0)", () -> isTold(2, 0, 2, 3));
        promise.test("3 how many of the writes that there are are its own",
                Promise16AboutTest::howManyAreItsOwn);
        promise.test("IndexOutOfBoundsException when there is no such branch",
                Promise16AboutTest::noSuchBranch);
        promise.test("IllegalArgumentException when what is none of these",
                Promise16AboutTest::whatIsNoneOfThese);
        promise.term(Sentences.FIRST_NAMED, Promise16AboutTest::firstNamed);
        promise.end();
    }

    /** Of the branches 0, 1 and 2; none of it is changed by a trim. */
    private static void isTold(int what, int... want) {
        Past past = USED.past();
        for (int branch = 0; branch < 3; branch++) {
            Check.due("about " + branch, want[branch], past.about(branch, what));
        }
        past.trim(5);
        past.close(0);
        Check.due("0 closed", what == 0 ? 0 : want[0], past.about(0, what));
        Check.due("1 trimmed", want[1], past.about(1, what));
        Check.due("2 trimmed", want[2], past.about(2, what));
        Past latest = Scenes.writes(7).then(Scenes.branches(4)).past();
        int number = latest.branch(0, 7);
        Check.due("of the sixth", new int[] {1, 0, 7}[what], latest.about(number, what));
        Check.due("of a new object", new int[] {1, -1, 0}[what], new Past().about(0, what));
    }

    private static void howManyAreItsOwn() {
        Past past = USED.past();
        Check.due("of 0", 3, past.about(0, 3));
        Check.due("of 1, which is closed", 2, past.about(1, 3));
        Check.due("of 2: none, though it reads some", 0, past.about(2, 3));
        past.trim(5);
        Check.due("of 0, trimmed", 2, past.about(0, 3));
        Check.due("of 1, trimmed", 0, past.about(1, 3));
        Check.due("of 0, all 120", 120, Scenes.FULL.past().about(0, 3));
        Check.due("of a new object", 0, new Past().about(0, 3));
        Past joined = Scenes.branches(1).past();
        joined.write(1, 0, 0, 1, 1);
        joined.join(1, 0);
        Check.due("joined to it", 1, joined.about(0, 3));
        Check.due("joined from it", 1, joined.about(1, 3));
    }

    private static void noSuchBranch() {
        for (int what = 0; what < 4; what++) {
            int asked = what;
            Check.With about = (memory, branch) -> memory.about(branch, asked);
            Check.allowedWithin("branch", 0, 2, USED, about);
            Check.refusedOutside("branch", Check.INDEX, 0, 2, USED, about);
        }
        Check.allowedWithin("branch", 0, 5, Scenes.SIX,
                (memory, branch) -> memory.about(branch, 0));
        Check.refusedOutside("branch", Check.INDEX, 0, 5, Scenes.SIX,
                (memory, branch) -> memory.about(branch, 3));
    }

    private static void whatIsNoneOfThese() {
        for (int branch = 0; branch < 3; branch++) {
            int asked = branch;
            Check.With about = (memory, what) -> memory.about(asked, what);
            Check.allowedWithin("what", 0, 3, USED, about);
            Check.refusedOutside("what", Check.ARGUMENT, 0, 3, USED, about);
        }
    }

    private static void firstNamed() {
        Check.refused("no branch 3, no what 4", Check.INDEX, USED, memory -> memory.about(3, 4));
        Check.refused("no branch -1, no what -1", Check.INDEX, USED,
                memory -> memory.about(-1, -1));
    }
}
