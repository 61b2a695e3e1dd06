/** Promise 8: meeting. */
public final class Promise08MeetingTest {
    /** 0 -> 1 at 3, 1 -> 2 at 5, 0 -> 3 at 4, 2 -> 4 at 8, 1 -> 5 at 7; the clock is 9. */
    private static final Scene TREE = Scenes.writes(9).then(memory -> {
        memory.branch(0, 3);
        memory.branch(1, 5);
        memory.branch(0, 4);
        memory.branch(2, 8);
        memory.branch(1, 7);
    });

    private Promise08MeetingTest() {
    }

    public static void main(String[] args) {
        Sentences promise = new Sentences("Promise 8: meeting");
        promise.test("The moment of the meeting of two branches",
                Promise08MeetingTest::momentOfTheMeeting);
        promise.test("IndexOutOfBoundsException when there is no such branch",
                Promise08MeetingTest::noSuchBranch);
        promise.end();
    }

    private static void momentOfTheMeeting() {
        int[][] want = {
            {9, 3, 3, 4, 3, 3},
            {3, 9, 5, 3, 5, 7},
            {3, 5, 9, 3, 8, 5},
            {4, 3, 3, 9, 3, 3},
            {3, 5, 8, 3, 9, 5},
            {3, 7, 5, 3, 5, 9}};
        areMet(TREE, want);
        // Neither is asked whether it is open or can be read.
        areMet(TREE.then(memory -> {
            memory.close(0);
            memory.close(1);
            memory.close(4);
            memory.trim(9);
        }), want);
        Past past = new Past();
        Check.due("a new object with itself", 0, past.meeting(0, 0));
        past.branch(0, 0);
        past.branch(0, 0);
        past.write(1, 0, 0, 0, 0);
        Check.due("at the first moment", 0, past.meeting(1, 2));
        Check.due("itself at the new clock", 1, past.meeting(2, 2));
        past.branch(1, 1);
        Check.due("at the clock", 1, past.meeting(1, 3));
        past.write(1, 0, 0, 0, 0);
        Check.due("not at the new clock", 1, past.meeting(1, 3));
    }

    private static void areMet(Scene scene, int[][] want) {
        Past past = scene.past();
        for (int one = 0; one < 6; one++) {
            for (int two = 0; two < 6; two++) {
                Check.due("meeting " + one + " " + two, want[one][two], past.meeting(one, two));
            }
        }
    }

    private static void noSuchBranch() {
        Scene three = Scenes.branches(2).then(memory -> memory.close(2));
        Check.With one = (memory, branch) -> memory.meeting(branch, 0);
        Check.allowedWithin("one", 0, 2, three, one);
        Check.refusedOutside("one", Check.INDEX, 0, 2, three, one);
        Check.With two = (memory, branch) -> memory.meeting(0, branch);
        Check.allowedWithin("two", 0, 2, three, two);
        Check.refusedOutside("two", Check.INDEX, 0, 2, three, two);
        Check.refused("both", Check.INDEX, three, memory -> memory.meeting(3, 3));
        Check.refusedOutside("of six", Check.INDEX, 0, 5, Scenes.SIX,
                (memory, branch) -> memory.meeting(branch, branch));
    }
}
