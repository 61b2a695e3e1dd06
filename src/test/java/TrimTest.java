/** Promise 10 (trim). */
public final class TrimTest {
    private TrimTest() {
    }

    public static void main(String[] args) {
        oneBranch();
        keepsWhatForksRead();
        closedBranches();
        laterForks();
        refused();
        makesRoom();
        Check.end("TrimTest");
    }

    private static BranchedPast withWrites(int writes) {
        BranchedPast past = new BranchedPast();
        for (int made = 1; made <= writes; made++) {
            past.write(0, 0, 0, 1, made);
        }
        return past;
    }

    private static void oneBranch() {
        BranchedPast past = withWrites(5);
        past.write(0, 7, 1, 2, 3);
        Check.due("at 0", 0, past.trim(0));
        Check.due("the latest at 1 is read still", 0, past.trim(1));
        Check.due("at 3", 2, past.trim(3));
        Check.due("horizon", 3, past.state(1));
        Check.due("writes", 4, past.state(2));
        Check.due("clock", 6, past.state(0));
        Check.due("at the horizon", 3, past.read(0, 3, 0, 0, 1));
        Check.due("behind it", 4, past.read(0, 4, 0, 0, 1));
        Check.due("another field", 3, past.read(0, 6, 7, 1, 1));
        Check.due("again", 0, past.trim(3));
        Check.due("at the clock", 2, past.trim(6));
        Check.due("one for each field", 2, past.state(2));
    }

    private static void keepsWhatForksRead() {
        BranchedPast past = withWrites(5);
        past.branch(0, 2);
        past.write(0, 0, 1, 0, 0);
        past.write(1, 0, 0, 1, 70);
        Check.due("all but two, nothing written is kept", 3, past.trim(6));
        Check.due("the fork's", 2, past.read(1, 6, 0, 0, 1));
        Check.due("its own", 70, past.read(1, 7, 0, 0, 1));
        Check.due("the parent's", 5, past.read(0, 6, 0, 0, 1));
        Check.due("nothing", 6, past.read(0, 6, 0, 1, 2));
        Check.due("the fork has its own now", 1, past.trim(7));
    }

    private static void closedBranches() {
        BranchedPast past = withWrites(3);
        past.branch(0, 2);
        past.write(1, 0, 0, 1, 10);
        past.write(1, 0, 0, 1, 11);
        past.branch(1, 4);
        past.close(1);
        Check.due("what only a closed one reads goes", 1, past.trim(0));
        Check.due("what its child reads stays", 10, past.read(2, 5, 0, 0, 1));
        past.close(0);
        Check.due("what branch 0 reads goes, too", 3, past.trim(0));
        Check.due("closed ones' writes", 0, past.about(0, 3));
        Check.due("one is left", 1, past.state(2));
    }

    private static void laterForks() {
        BranchedPast past = withWrites(4);
        past.branch(0, 3);
        past.close(0);
        Check.due("only from its fork on", 3, past.trim(1));
        Check.due("it reads the same", 3, past.read(1, 3, 0, 0, 2));
    }

    private static void refused() {
        BranchedPast past = withWrites(4);
        Check.refused("after the clock", Check.ARGUMENT, past, () -> past.trim(5));
        Check.refused("before 0", Check.ARGUMENT, past, () -> past.trim(-1));
        past.trim(2);
        Check.refused("before the horizon", Check.ARGUMENT, past, () -> past.trim(1));
        Check.due("to the clock", 2, past.trim(4));
    }

    private static void makesRoom() {
        BranchedPast past = withWrites(120);
        Check.due("trim", 119, past.trim(120));
        for (int made = 121; made <= 239; made++) {
            Check.due("write", made, past.write(0, 1, 1, 1, made));
        }
        Check.refused("full", Check.UNSUPPORTED, past, () -> past.write(0, 0, 0, 0, 0));
    }
}
