/** Promises 1 (a new object), 2 (branch), 3 (close), 8 (meeting), 15 (state) and 16 (about). */
public final class BranchesTest {
    private BranchesTest() {
    }

    public static void main(String[] args) {
        newObject();
        branch();
        branchRefused();
        close();
        meeting();
        state();
        about();
        Check.end("BranchesTest");
    }

    private static void newObject() {
        BranchedPast past = new BranchedPast();
        Check.due("NONE", -1, BranchedPast.NONE);
        Check.due("clock", 0, past.state(0));
        Check.due("horizon", 0, past.state(1));
        Check.due("writes", 0, past.state(2));
        Check.due("branches", 1, past.state(3));
        Check.due("open", 1, past.about(0, 0));
        Check.due("text", 0, past.type(0));
        for (int cell = 0; cell < 48; cell++) {
            Check.due("kind", 0, past.read(0, 0, cell / 4, cell % 4, 0));
            Check.due("value", 0, past.read(0, 0, cell / 4, cell % 4, 1));
            Check.due("moment", -1, past.read(0, 0, cell / 4, cell % 4, 2));
        }
        BranchedPast other = new BranchedPast();
        other.write(0, 0, 0, 1, 1);
        other.type('a');
        Check.due("objects share nothing", Snapshot.of(new BranchedPast()), Snapshot.of(past));
    }

    private static BranchedPast withWrites(int writes) {
        BranchedPast past = new BranchedPast();
        for (int made = 1; made <= writes; made++) {
            past.write(0, 0, 0, 1, made);
        }
        return past;
    }

    private static void branch() {
        BranchedPast past = withWrites(4);
        Check.due("from the past", 1, past.branch(0, 2));
        Check.due("from the first moment", 2, past.branch(0, 0));
        Check.due("from the clock", 3, past.branch(0, 4));
        Check.due("from a branch at its fork", 4, past.branch(1, 2));
        Check.due("from a branch behind its fork", 5, past.branch(1, 3));
        Check.due("six", 6, past.state(3));
        Check.due("what was before the fork", 2, past.read(1, 4, 0, 0, 1));
        Check.due("nothing was there", 0, past.read(2, 4, 0, 0, 0));
        Check.due("through two forks", 2, past.read(5, 3, 0, 0, 1));
        past.write(1, 0, 0, 1, 50);
        Check.due("not in sight of an earlier fork", 2, past.read(5, 5, 0, 0, 1));
        Check.due("not in sight of the parent", 4, past.read(0, 5, 0, 0, 1));
    }

    private static void branchRefused() {
        BranchedPast past = withWrites(4);
        past.branch(0, 2);
        past.trim(1);
        Check.refused("no branch -1", Check.INDEX, past, () -> past.branch(-1, 2));
        Check.refused("no branch 2", Check.INDEX, past, () -> past.branch(2, 99));
        Check.refused("before the horizon", Check.ARGUMENT, past, () -> past.branch(0, 0));
        Check.refused("before the fork", Check.ARGUMENT, past, () -> past.branch(1, 1));
        Check.refused("after the clock", Check.ARGUMENT, past, () -> past.branch(0, 5));
        past.branch(0, 4);
        past.close(2);
        Check.refused("closed", Check.ARGUMENT, past, () -> past.branch(2, 4));
        past.branch(0, 1);
        past.branch(0, 4);
        past.branch(0, 4);
        Check.refused("six", Check.STATE, past, () -> past.branch(0, 4));
        Check.refused("six, not then", Check.ARGUMENT, past, () -> past.branch(0, 5));
        Check.refused("six, none such", Check.INDEX, past, () -> past.branch(6, 5));
    }

    private static void close() {
        BranchedPast past = withWrites(2);
        Check.refused("the only one", Check.STATE, past, () -> past.close(0));
        Check.refused("no branch 1", Check.INDEX, past, () -> past.close(1));
        Check.refused("no branch -1", Check.INDEX, past, () -> past.close(-1));
        past.branch(0, 1);
        past.branch(1, 2);
        past.close(1);
        Check.due("closed", 0, past.about(1, 0));
        Check.due("its child is open", 1, past.about(2, 0));
        Check.due("its child reads through it", 1, past.read(2, 2, 0, 0, 1));
        Check.refused("closed already", Check.STATE, past, () -> past.close(1));
        Check.refused("not read", Check.ARGUMENT, past, () -> past.read(1, 2, 0, 0, 0));
        past.close(0);
        Check.refused("no other is open", Check.STATE, past, () -> past.close(2));
        past.branch(2, 2);
        past.close(2);
        Check.due("the newest stays", 1, past.about(3, 0));
    }

    private static void meeting() {
        BranchedPast past = withWrites(9);
        past.branch(0, 3);
        past.branch(1, 5);
        past.branch(0, 4);
        past.branch(2, 8);
        past.branch(1, 7);
        Check.due("itself", 9, past.meeting(4, 4));
        Check.due("with the parent", 3, past.meeting(1, 0));
        Check.due("the parent with it", 3, past.meeting(0, 1));
        Check.due("over the parent", 3, past.meeting(4, 0));
        Check.due("two children of 0", 3, past.meeting(4, 3));
        Check.due("the later child first", 3, past.meeting(3, 4));
        Check.due("two children of 1", 5, past.meeting(4, 5));
        Check.due("two children of 1, turned", 5, past.meeting(5, 4));
        Check.due("on its own line", 8, past.meeting(4, 2));
        Check.due("the later fork of 0", 4, past.meeting(3, 0));
        past.close(1);
        past.trim(9);
        Check.due("closed, behind the horizon", 5, past.meeting(1, 2));
        past.write(0, 0, 0, 0, 0);
        Check.due("the clock goes on", 10, past.meeting(0, 0));
        Check.refused("no branch 6", Check.INDEX, past, () -> past.meeting(0, 6));
        Check.refused("no branch -1", Check.INDEX, past, () -> past.meeting(-1, 0));
    }

    private static void state() {
        BranchedPast past = withWrites(5);
        past.branch(0, 3);
        past.trim(4);
        Check.due("clock", 5, past.state(0));
        Check.due("horizon", 4, past.state(1));
        Check.due("writes", 3, past.state(2));
        Check.due("branches", 2, past.state(3));
        Check.refused("what 4", Check.ARGUMENT, past, () -> past.state(4));
        Check.refused("what -1", Check.ARGUMENT, past, () -> past.state(-1));
    }

    private static void about() {
        BranchedPast past = withWrites(3);
        past.branch(0, 2);
        past.branch(1, 3);
        past.write(1, 1, 1, 1, 1);
        past.write(1, 1, 1, 1, 2);
        past.close(1);
        int[][] want = {{1, -1, 0, 3}, {0, 0, 2, 2}, {1, 1, 3, 0}};
        for (int branch = 0; branch < 3; branch++) {
            for (int what = 0; what < 4; what++) {
                Check.due("about " + branch + " " + what, want[branch][what],
                        past.about(branch, what));
            }
        }
        past.trim(5);
        Check.due("own writes after a trim", 2, past.about(0, 3));
        Check.due("own writes of a closed one", 0, past.about(1, 3));
        Check.refused("no branch 3", Check.INDEX, past, () -> past.about(3, 9));
        Check.refused("no branch -1", Check.INDEX, past, () -> past.about(-1, 0));
        Check.refused("what 4", Check.ARGUMENT, past, () -> past.about(0, 4));
        Check.refused("what -1", Check.ARGUMENT, past, () -> past.about(0, -1));
    }
}
