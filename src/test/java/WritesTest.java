/** Promises 4 (write), 5 (read), 6 (history) and 7 (differs). */
public final class WritesTest {
    private WritesTest() {
    }

    public static void main(String[] args) {
        write();
        writeRefused();
        writeFull();
        read();
        readRefused();
        history();
        historyBehindTheHorizon();
        differs();
        Check.end("WritesTest");
    }

    private static void isRead(BranchedPast past, int moment, int kind, int value, int written) {
        Check.due("kind at " + moment, kind, past.read(0, moment, 11, 3, 0));
        Check.due("value at " + moment, value, past.read(0, moment, 11, 3, 1));
        Check.due("moment at " + moment, written, past.read(0, moment, 11, 3, 2));
    }

    private static void write() {
        BranchedPast past = new BranchedPast();
        Check.due("number", 1, past.write(0, 11, 3, 1, Integer.MIN_VALUE));
        Check.due("reference", 2, past.write(0, 11, 3, 2, 11));
        Check.due("nothing, with any value", 3, past.write(0, 11, 3, 0, 77));
        Check.due("to another field", 4, past.write(0, 11, 2, 1, 5));
        Check.due("the same again", 5, past.write(0, 11, 2, 1, 5));
        Check.due("to another object", 6, past.write(0, 10, 3, 2, 0));
        isRead(past, 0, 0, 0, -1);
        isRead(past, 1, 1, Integer.MIN_VALUE, 1);
        isRead(past, 2, 2, 11, 2);
        isRead(past, 3, 0, 0, 3);
        isRead(past, 6, 0, 0, 3);
        Check.due("clock", 6, past.state(0));
        Check.due("writes", 6, past.state(2));
    }

    private static void writeRefused() {
        BranchedPast past = new BranchedPast();
        past.branch(0, 0);
        past.close(1);
        Check.refused("no branch 2", Check.INDEX, past, () -> past.write(2, 0, 0, 3, 0));
        Check.refused("no branch -1", Check.INDEX, past, () -> past.write(-1, 0, 0, 0, 0));
        Check.refused("no object 12", Check.INDEX, past, () -> past.write(1, 12, 0, 3, 0));
        Check.refused("no object -1", Check.INDEX, past, () -> past.write(0, -1, 0, 0, 0));
        Check.refused("no field 4", Check.INDEX, past, () -> past.write(1, 0, 4, 3, 0));
        Check.refused("no field -1", Check.INDEX, past, () -> past.write(0, 0, -1, 0, 0));
        Check.refused("kind 3", Check.ARGUMENT, past, () -> past.write(1, 0, 0, 3, 0));
        Check.refused("kind -1", Check.ARGUMENT, past, () -> past.write(0, 0, 0, -1, 0));
        Check.refused("to object 12", Check.ARGUMENT, past, () -> past.write(1, 0, 0, 2, 12));
        Check.refused("to object -1", Check.ARGUMENT, past, () -> past.write(0, 0, 0, 2, -1));
        Check.refused("closed", Check.STATE, past, () -> past.write(1, 0, 0, 1, 0));
    }

    private static void writeFull() {
        BranchedPast past = new BranchedPast();
        past.branch(0, 0);
        for (int made = 1; made <= 120; made++) {
            Check.due("write " + made, made, past.write(made % 2, 0, 0, 1, made));
        }
        Check.refused("full", Check.UNSUPPORTED, past, () -> past.write(0, 0, 0, 0, 0));
        past.close(1);
        Check.refused("full, closed", Check.STATE, past, () -> past.write(1, 0, 0, 0, 0));
        Check.refused("full, no kind", Check.ARGUMENT, past, () -> past.write(1, 0, 0, 3, 0));
        Check.due("the closed one's go", 60, past.trim(0));
        Check.due("room again", 121, past.write(0, 0, 0, 1, 1));
        Check.due("writes", 61, past.state(2));
    }

    private static void read() {
        BranchedPast past = new BranchedPast();
        past.write(0, 2, 1, 1, 10);
        past.write(0, 2, 1, 1, 20);
        past.branch(0, 1);
        past.write(1, 2, 1, 2, 7);
        past.write(0, 2, 1, 1, 30);
        Check.due("at the fork", 10, past.read(1, 1, 2, 1, 1));
        Check.due("the parent's later one is not in sight", 10, past.read(1, 2, 2, 1, 1));
        Check.due("its own kind", 2, past.read(1, 3, 2, 1, 0));
        Check.due("its own value", 7, past.read(1, 4, 2, 1, 1));
        Check.due("its own moment", 3, past.read(1, 4, 2, 1, 2));
        Check.due("the parent's then", 20, past.read(0, 3, 2, 1, 1));
        Check.due("the parent's now", 30, past.read(0, 4, 2, 1, 1));
        Check.due("another field", 0, past.read(0, 4, 2, 2, 0));
        Check.due("another object", 0, past.read(0, 4, 1, 1, 0));
    }

    private static void readRefused() {
        BranchedPast past = new BranchedPast();
        past.write(0, 0, 0, 1, 1);
        past.write(0, 0, 0, 1, 2);
        past.write(0, 0, 0, 1, 3);
        past.branch(0, 2);
        past.branch(0, 3);
        past.close(2);
        Check.refused("no branch 3", Check.INDEX, past, () -> past.read(3, 9, 0, 0, 9));
        Check.refused("no branch -1", Check.INDEX, past, () -> past.read(-1, 0, 0, 0, 0));
        Check.refused("no object 12", Check.INDEX, past, () -> past.read(0, 9, 12, 0, 9));
        Check.refused("no object -1", Check.INDEX, past, () -> past.read(0, 0, -1, 0, 0));
        Check.refused("no field 4", Check.INDEX, past, () -> past.read(2, 0, 0, 4, 9));
        Check.refused("no field -1", Check.INDEX, past, () -> past.read(0, 0, 0, -1, 0));
        Check.refused("what 3", Check.ARGUMENT, past, () -> past.read(0, 0, 0, 0, 3));
        Check.refused("what -1", Check.ARGUMENT, past, () -> past.read(0, 0, 0, 0, -1));
        Check.refused("after the clock", Check.ARGUMENT, past, () -> past.read(0, 4, 0, 0, 0));
        Check.refused("before 0", Check.ARGUMENT, past, () -> past.read(0, -1, 0, 0, 0));
        Check.refused("before the fork", Check.ARGUMENT, past, () -> past.read(1, 1, 0, 0, 0));
        Check.refused("closed", Check.ARGUMENT, past, () -> past.read(2, 3, 0, 0, 0));
        past.trim(3);
        Check.refused("before the horizon", Check.ARGUMENT, past, () -> past.read(1, 2, 0, 0, 0));
        Check.due("at the horizon", 2, past.read(1, 3, 0, 0, 1));
    }

    private static void isHistory(BranchedPast past, int branch, int... moments) {
        for (int k = 0; k < moments.length; k++) {
            Check.due("history " + branch + " " + k, moments[k], past.history(branch, 3, 2, k));
        }
        Check.due("behind the last one", -1, past.history(branch, 3, 2, moments.length));
        Check.due("k = -1", -1, past.history(branch, 3, 2, -1));
        Check.due("least k", -1, past.history(branch, 3, 2, Integer.MIN_VALUE));
        Check.due("greatest k", -1, past.history(branch, 3, 2, Integer.MAX_VALUE));
    }

    private static void history() {
        BranchedPast past = new BranchedPast();
        isHistory(past, 0);
        past.write(0, 3, 2, 1, 1);
        past.write(0, 3, 1, 1, 1);
        past.write(0, 3, 2, 0, 0);
        past.write(0, 3, 2, 0, 0);
        past.branch(0, 3);
        past.branch(0, 2);
        past.branch(0, 0);
        past.write(1, 3, 2, 1, 1);
        past.write(2, 2, 2, 1, 1);
        isHistory(past, 0, 1, 3, 4);
        isHistory(past, 1, 3, 5);
        isHistory(past, 2, 1);
        isHistory(past, 3);
        past.close(1);
        isHistory(past, 1);
        Check.refused("no branch 4", Check.INDEX, past, () -> past.history(4, 0, 0, 0));
        Check.refused("no branch -1", Check.INDEX, past, () -> past.history(-1, 0, 0, 0));
        Check.refused("no object 12", Check.INDEX, past, () -> past.history(0, 12, 0, 0));
        Check.refused("no object -1", Check.INDEX, past, () -> past.history(0, -1, 0, 0));
        Check.refused("no field 4", Check.INDEX, past, () -> past.history(0, 0, 4, 0));
        Check.refused("no field -1", Check.INDEX, past, () -> past.history(1, 0, -1, 0));
    }

    private static void historyBehindTheHorizon() {
        BranchedPast past = new BranchedPast();
        past.write(0, 3, 2, 1, 1);
        past.write(0, 3, 2, 1, 2);
        past.branch(0, 1);
        past.write(0, 3, 2, 1, 3);
        past.write(1, 3, 2, 1, 4);
        past.write(1, 3, 2, 1, 5);
        past.trim(3);
        isHistory(past, 0, 3);
        isHistory(past, 1, 1, 4, 5);
        past.trim(4);
        isHistory(past, 0, 3);
        isHistory(past, 1, 4, 5);
    }

    private static void isDifferent(BranchedPast past, int one, int two, int... cells) {
        for (int k = 0; k < cells.length; k++) {
            Check.due("differs " + k, cells[k], past.differs(one, two, k));
            Check.due("turned " + k, cells[k], past.differs(two, one, k));
        }
        Check.due("behind the last one", -1, past.differs(one, two, cells.length));
        Check.due("k = -1", -1, past.differs(one, two, -1));
        Check.due("least k", -1, past.differs(one, two, Integer.MIN_VALUE));
    }

    private static void differs() {
        BranchedPast past = new BranchedPast();
        past.write(0, 0, 0, 1, 1);
        past.branch(0, 1);
        isDifferent(past, 0, 1);
        past.write(1, 11, 3, 1, 1);
        past.write(0, 5, 2, 1, 3);
        past.write(1, 5, 2, 2, 3);
        past.write(0, 5, 1, 1, 3);
        past.write(1, 5, 1, 1, 3);
        past.write(0, 4, 0, 0, 9);
        past.write(0, 3, 0, 1, 0);
        past.write(0, 2, 3, 2, 0);
        isDifferent(past, 0, 1, 11, 12, 22, 47);
        isDifferent(past, 1, 1);
        past.write(0, 0, 0, 1, 2);
        isDifferent(past, 1, 0, 0, 11, 12, 22, 47);
        Check.refused("no branch 2", Check.INDEX, past, () -> past.differs(0, 2, 0));
        Check.refused("no branch -1", Check.INDEX, past, () -> past.differs(-1, 0, 0));
        past.close(1);
        Check.refused("closed", Check.STATE, past, () -> past.differs(0, 1, 0));
        Check.refused("closed, turned", Check.STATE, past, () -> past.differs(1, 0, 0));
        Check.refused("closed, none such", Check.INDEX, past, () -> past.differs(1, 2, 0));
    }
}
