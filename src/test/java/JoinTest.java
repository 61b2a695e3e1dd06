/** Promise 9 (join). */
public final class JoinTest {
    private JoinTest() {
    }

    public static void main(String[] args) {
        carries();
        carriesInOrder();
        leavesAlone();
        conflicts();
        joinsNephews();
        meetsWithWhatIsLeft();
        refused();
        full();
        conflictsWhenFull();
        Check.end("JoinTest");
    }

    /** Branches 1 and 2 from a parent whose field 0 of objects 0 .. 3 is the number 1. */
    private static BranchedPast forked() {
        BranchedPast past = new BranchedPast();
        for (int object = 0; object < 4; object++) {
            past.write(0, object, 0, 1, 1);
        }
        past.branch(0, 4);
        past.branch(0, 4);
        return past;
    }

    private static void carries() {
        BranchedPast past = forked();
        past.write(1, 0, 0, 1, 2);
        past.write(1, 1, 0, 0, 0);
        past.write(1, 5, 3, 2, 6);
        past.write(2, 2, 0, 1, 9);
        Check.due("join", 0, past.join(1, 2));
        Check.due("number", 2, past.read(2, 11, 0, 0, 1));
        Check.due("nothing", 0, past.read(2, 11, 1, 0, 0));
        Check.due("nothing is written", 10, past.read(2, 11, 1, 0, 2));
        Check.due("reference", 2, past.read(2, 11, 5, 3, 0));
        Check.due("to object", 6, past.read(2, 11, 5, 3, 1));
        Check.due("its own stays", 9, past.read(2, 11, 2, 0, 1));
        Check.due("not carried back", 1, past.read(1, 11, 2, 0, 1));
        Check.due("clock", 11, past.state(0));
        Check.due("again", 0, past.join(1, 2));
        Check.due("nothing more is written", 11, past.state(0));
        Check.due("before it", 1, past.read(2, 8, 0, 0, 1));
    }

    private static void carriesInOrder() {
        BranchedPast past = forked();
        past.write(1, 11, 3, 1, 1);
        past.write(1, 4, 2, 1, 2);
        past.write(1, 4, 1, 1, 3);
        Check.due("join to the parent", 0, past.join(1, 0));
        Check.due("first", 8, past.read(0, 10, 4, 1, 2));
        Check.due("second", 9, past.read(0, 10, 4, 2, 2));
        Check.due("third", 10, past.read(0, 10, 11, 3, 2));
    }

    private static void leavesAlone() {
        BranchedPast past = forked();
        past.write(1, 0, 0, 1, 5);
        past.write(1, 0, 0, 1, 1);
        past.write(2, 0, 0, 1, 7);
        past.write(1, 1, 0, 1, 8);
        past.write(2, 1, 0, 1, 8);
        past.write(1, 4, 0, 0, 3);
        past.write(2, 4, 0, 1, 3);
        Check.due("changed back, the same, never there", 0, past.join(1, 2));
        Check.due("nothing is written", 11, past.state(0));
    }

    private static void conflicts() {
        BranchedPast past = forked();
        past.write(1, 0, 0, 1, 5);
        past.write(2, 0, 0, 1, 6);
        past.write(1, 1, 0, 0, 0);
        past.write(2, 1, 0, 2, 1);
        past.write(1, 4, 0, 1, 2);
        past.write(2, 4, 0, 2, 2);
        past.write(1, 2, 0, 1, 5);
        past.write(2, 3, 0, 1, 5);
        String before = Snapshot.of(past);
        Check.due("three", 3, past.join(1, 2));
        Check.due("three, turned", 3, past.join(2, 1));
        Check.due("nothing is written", before, Snapshot.of(past));
        past.write(2, 0, 0, 1, 5);
        Check.due("two", 2, past.join(1, 2));
        past.write(2, 1, 0, 1, 1);
        Check.due("changed back there", 1, past.join(1, 2));
        past.write(2, 4, 0, 0, 0);
        Check.due("none", 0, past.join(1, 2));
        Check.due("the three fields", 18, past.state(0));
    }

    private static void joinsNephews() {
        BranchedPast past = forked();
        past.write(1, 0, 0, 1, 2);
        past.branch(1, 5);
        past.write(3, 1, 0, 1, 3);
        Check.due("to the uncle, from the shared one on", 0, past.join(3, 2));
        Check.due("the parent's", 2, past.read(2, 8, 0, 0, 1));
        Check.due("its own", 3, past.read(2, 8, 1, 0, 1));
        past.write(0, 0, 0, 1, 4);
        Check.due("changed on the shared one since", 1, past.join(3, 0));
    }

    private static void meetsWithWhatIsLeft() {
        BranchedPast past = new BranchedPast();
        past.write(0, 0, 0, 1, 1);
        past.write(0, 0, 0, 1, 2);
        past.branch(0, 2);
        past.branch(0, 2);
        past.write(1, 0, 0, 1, 3);
        past.write(2, 0, 0, 1, 2);
        past.branch(1, 4);
        past.branch(2, 4);
        past.close(0);
        past.close(1);
        past.close(2);
        // The write of moment 2 goes: at the meeting there is nothing, so both are changed.
        Check.due("trim", 2, past.trim(2));
        Check.due("conflict", 1, past.join(3, 4));
    }

    private static void refused() {
        BranchedPast past = forked();
        past.write(1, 0, 0, 1, 5);
        past.write(2, 0, 0, 1, 5);
        Check.refused("no branch 3", Check.INDEX, past, () -> past.join(3, 3));
        Check.refused("from no branch 3", Check.INDEX, past, () -> past.join(3, 0));
        Check.refused("from no branch -1", Check.INDEX, past, () -> past.join(-1, 0));
        Check.refused("to no branch 3", Check.INDEX, past, () -> past.join(0, 3));
        Check.refused("to no branch -1", Check.INDEX, past, () -> past.join(0, -1));
        Check.refused("the same", Check.ARGUMENT, past, () -> past.join(1, 1));
        past.close(0);
        Check.refused("from closed", Check.STATE, past, () -> past.join(0, 1));
        Check.refused("to closed", Check.STATE, past, () -> past.join(1, 0));
        Check.refused("closed, the same", Check.ARGUMENT, past, () -> past.join(0, 0));
        past.trim(4);
        Check.due("the meeting is at the horizon", 0, past.join(1, 2));
        past.trim(5);
        Check.refused("before the horizon", Check.STATE, past, () -> past.join(1, 2));
    }

    private static void full() {
        BranchedPast past = forked();
        past.write(1, 0, 0, 1, 2);
        past.write(1, 1, 0, 1, 2);
        for (int made = 7; made <= 118; made++) {
            past.write(2, 9, 0, 1, made);
        }
        Check.due("just enough room", 0, past.join(1, 2));
        Check.due("full", 120, past.state(2));
        Check.due("nothing to write", 0, past.join(1, 2));
        Check.refused("two too many", Check.UNSUPPORTED, past, () -> past.join(1, 0));
        past.close(2);
        Check.due("those of branch 2 go", 114, past.trim(0));
    }

    private static void conflictsWhenFull() {
        BranchedPast past = forked();
        past.write(1, 0, 0, 1, 2);
        past.write(1, 1, 0, 1, 2);
        for (int made = 7; made <= 119; made++) {
            past.write(2, 9, 0, 1, made);
        }
        Check.refused("one too many", Check.UNSUPPORTED, past, () -> past.join(1, 2));
        past.write(2, 1, 0, 1, 3);
        Check.due("a conflict comes first", 1, past.join(1, 2));
    }
}
