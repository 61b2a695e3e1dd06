/** The terms of where branches meet, and of how they are joined. */
final class JoinTerms {
    /** Each branch is the parent of the next one; branch n leaves n - 1 at moment n. */
    private static final Scene ROW = memory -> {
        for (int branch = 1; branch < 6; branch++) {
            memory.write(branch - 1, 0, 0, 1, branch);
            memory.branch(branch - 1, branch);
        }
        memory.write(5, 0, 0, 1, 6);
    };

    /** 0 -> 1 at 3, 1 -> 2 at 5, 1 -> 3 at 7, 3 -> 4 at 8, 0 -> 5 at 6; the clock is 9. */
    private static final Scene TREE = Scenes.writes(9).then(memory -> {
        memory.branch(0, 3);
        memory.branch(1, 5);
        memory.branch(1, 7);
        memory.branch(3, 8);
        memory.branch(0, 6);
    });

    private JoinTerms() {
    }

    static void tests(Sentences terms) {
        terms.test("THE MEETING of two branches: the LINE of a branch is that one, its parent, "
                + "that one's parent, and so on", JoinTerms::theLine);
        terms.test("Let a be the first one on the line of the one that is also on the line of the "
                + "other", JoinTerms::theFirstOnBothLines);
        terms.test("Each of the two has left a at a moment: the fork of that one on its line whose "
                + "parent is a", JoinTerms::theForkWhoseParentIsA);
        terms.test("or the clock, if it is a itself", JoinTerms::theClockIfItIsA);
        terms.test("They meet on a at the earlier of these moments", JoinTerms::theEarlier);
        terms.test("TO JOIN a branch to another one: a field is CHANGED on a branch if its value "
                + "there at the clock is another one than at the meeting", JoinTerms::changed);
        terms.test("(as if that could be read; of the writes that are there still)",
                JoinTerms::asIfThatCouldBeRead);
        terms.test("For all fields that are changed on the one, and whose value there is not the "
                + "same as on the other: it is a CONFLICT if it is changed there, too",
                JoinTerms::conflict);
        terms.test("If there is no conflict, these fields get these values on the other one, each "
                + "by a write, by objects and then fields", JoinTerms::getTheseValues);
    }

    private static void theLine() {
        Past past = ROW.past();
        for (int one = 0; one < 6; one++) {
            for (int two = 0; two < 6; two++) {
                // The nearer one to branch 0 is the shared one: its child has left it.
                int want = one == two ? 6 : Math.min(one, two) + 1;
                Check.due("meeting " + one + " " + two, want, past.meeting(one, two));
            }
        }
    }

    private static void isMeeting(int one, int two, int moment) {
        Past past = TREE.past();
        Check.due("meeting " + one + " " + two, moment, past.meeting(one, two));
        Check.due("meeting " + two + " " + one, moment, past.meeting(two, one));
    }

    private static void theFirstOnBothLines() {
        // Both 1 and 0 are on both lines; they leave 0 at 3, together, and 1 at 5 and 7.
        isMeeting(2, 3, 5);
        isMeeting(2, 4, 5);
        isMeeting(4, 1, 7);
    }

    private static void theForkWhoseParentIsA() {
        isMeeting(4, 5, 3);
        isMeeting(4, 0, 3);
        isMeeting(4, 1, 7);
        isMeeting(3, 5, 3);
    }

    private static void theClockIfItIsA() {
        for (int branch = 0; branch < 6; branch++) {
            isMeeting(branch, branch, 9);
        }
        isMeeting(0, 5, 6);
        Past past = TREE.past();
        past.write(4, 0, 0, 0, 0);
        Check.due("the clock has grown", 10, past.meeting(2, 2));
        Check.due("the fork of the other one has not", 6, past.meeting(0, 5));
    }

    private static void theEarlier() {
        isMeeting(5, 1, 3);
        isMeeting(5, 2, 3);
        isMeeting(3, 2, 5);
        Past past = Scenes.writes(2).past();
        past.branch(0, 2);
        past.branch(0, 2);
        past.branch(1, 2);
        Check.due("both at once, at the clock", 2, past.meeting(3, 2));
    }

    /** Branch 1 leaves 0 where field 0 of object 0 is the number 5; then the rest. */
    private static Past from5(Scene rest) {
        Scene scene = memory -> {
            memory.write(0, 0, 0, 1, 5);
            memory.branch(0, 1);
        };
        return scene.then(rest).past();
    }

    private static void changed() {
        isJoined(1, memory -> memory.write(1, 0, 0, 1, 6));
        isJoined(1, memory -> memory.write(1, 0, 0, 2, 5));
        isJoined(1, memory -> memory.write(1, 0, 0, 0, 5));
        isJoined(1, memory -> memory.write(1, 0, 1, 1, 0));
        isJoined(1, memory -> memory.write(1, 0, 1, 2, 0));
        isJoined(0, memory -> memory.write(1, 0, 0, 1, 5));
        isJoined(0, memory -> memory.write(1, 0, 1, 0, 0));
        isJoined(0, memory -> {
            memory.write(1, 0, 0, 1, 6);
            memory.write(1, 0, 0, 1, 5);
        });
        isJoined(0, memory -> {
            memory.write(1, 0, 1, 2, 6);
            memory.write(1, 0, 1, 0, 6);
        });
        isJoined(0, memory -> memory.write(0, 0, 0, 1, 6));
    }

    /** So many fields are written by a join of 1 to 0. */
    private static void isJoined(int fields, Scene rest) {
        Past past = from5(rest);
        int clock = past.state(0);
        Check.due("join", 0, past.join(1, 0));
        Check.due("clock", clock + fields, past.state(0));
    }

    private static void asIfThatCouldBeRead() {
        onAClosedBranch();
        beforeTheForkOfTheOne();
        ofTheWritesThatAreThereStill();
    }

    private static void onAClosedBranch() {
        Past past = Scenes.writes(3).past();
        past.branch(0, 2);
        past.branch(0, 2);
        past.write(1, 0, 0, 1, 7);
        past.close(0);
        Check.due("join", 0, past.join(1, 2));
        Check.due("carried", 7, past.read(2, 5, 0, 0, 1));
    }

    /** Branch 3 leaves 1 behind a write on 1: it has changed since its line left 0. */
    private static void beforeTheForkOfTheOne() {
        Past past = Scenes.writes(2).past();
        past.branch(0, 1);
        past.branch(0, 2);
        past.write(1, 0, 0, 1, 7);
        past.branch(1, 3);
        // The meeting of 3 and 2 is at 1: there, the field was 1 for both; on 2 it is 2.
        Check.due("conflict", 1, past.join(3, 2));
        past.write(2, 0, 0, 1, 1);
        Check.due("none", 0, past.join(3, 2));
        Check.due("carried", 7, past.read(2, 5, 0, 0, 1));
        past.write(3, 0, 0, 1, 1);
        Check.due("changed back on 3, so nothing is changed", 0, past.join(3, 2));
        Check.due("nothing is carried", 6, past.state(0));
    }

    /** A write that has gone is not seen at the meeting: there is nothing, or an older one. */
    private static void ofTheWritesThatAreThereStill() {
        Scene scene = memory -> {
            memory.write(0, 0, 0, 1, 1);
            memory.write(0, 0, 0, 1, 2);
            memory.branch(0, 2);
            memory.branch(0, 2);
            memory.write(1, 0, 0, 1, 3);
            memory.write(2, 0, 0, 1, 2);
            memory.branch(1, 4);
            memory.branch(2, 4);
        };
        Check.due("all are there", 0, scene.past().join(3, 4));
        Past gone = scene.past();
        gone.close(0);
        gone.close(1);
        gone.close(2);
        Check.due("trim", 2, gone.trim(2));
        Check.due("both are changed", 1, gone.join(3, 4));
        Past older = scene.past();
        older.branch(0, 1);
        older.close(0);
        older.close(1);
        older.close(2);
        Check.due("trim, but for the first one", 1, older.trim(2));
        Check.due("both are changed from the first one", 1, older.join(3, 4));
        older.write(4, 0, 0, 1, 1);
        Check.due("4 is not any more", 0, older.join(3, 4));
        Check.due("carried", 3, older.read(4, 6, 0, 0, 1));
    }

    private static void conflict() {
        isConflict(1, 1, 6, 1, 7);
        isConflict(1, 1, 6, 2, 6);
        isConflict(1, 1, 6, 0, 0);
        isConflict(1, 0, 0, 1, 0);
        isConflict(1, 0, 0, 2, 0);
        isConflict(1, 2, 5, 2, 6);
        isConflict(0, 1, 6, 1, 6);
        isConflict(0, 0, 1, 0, 2);
        isConflict(0, 2, 5, 2, 5);
        isConflict(0, 1, 6, 1, 5);
        isConflict(0, 1, 5, 1, 6);
    }

    /** Where both write the field that was 5. */
    private static void isConflict(int conflicts, int kind, int value, int otherKind, int other) {
        Past past = from5(memory -> {
            memory.write(1, 0, 0, kind, value);
            memory.write(0, 0, 0, otherKind, other);
        });
        Check.due("conflicts", conflicts, past.join(1, 0));
        boolean carried = conflicts == 0 && otherKind == 1 && other == 5;
        Check.due("clock", carried ? 4 : 3, past.state(0));
    }

    private static void getTheseValues() {
        alongALine();
        Past past = from5(memory -> {
            memory.write(1, 11, 3, 1, 9);
            memory.write(1, 11, 0, 2, 8);
            memory.write(1, 0, 3, 1, -7);
            memory.write(1, 0, 0, 0, 0);
            memory.write(0, 5, 0, 1, 1);
        });
        Check.due("join", 0, past.join(1, 0));
        int[][] want = {{0, 0, 0, 0}, {0, 3, 1, -7}, {11, 0, 2, 8}, {11, 3, 1, 9}};
        for (int written = 0; written < 4; written++) {
            int[] row = want[written];
            Check.due("moment", 7 + written, past.read(0, 10, row[0], row[1], 2));
            Check.due("kind", row[2], past.read(0, 10, row[0], row[1], 0));
            Check.due("value", row[3], past.read(0, 10, row[0], row[1], 1));
        }
        Check.due("each by a write", 10, past.state(0));
        Check.due("no difference is left but what was changed on 0", 20, past.differs(0, 1, 0));
        Check.due("no more of them", -1, past.differs(0, 1, 1));
    }

    /** The field is n + 1 on each branch n of the row: all but branch 0 have changed it. */
    private static void alongALine() {
        Past up = ROW.past();
        Check.due("to the first one", 0, up.join(5, 0));
        Check.due("its value", 6, up.read(0, 7, 0, 0, 1));
        Check.due("not to those between them", 5, up.read(4, 7, 0, 0, 1));
        up.write(0, 0, 0, 1, 9);
        Check.due("changed on both", 1, up.join(5, 0));
        Past down = ROW.past();
        Check.due("nothing is changed behind the fork", 0, down.join(0, 5));
        Check.due("nothing is written", 6, down.state(0));
        down.write(0, 3, 3, 2, 3);
        Check.due("from the first one", 0, down.join(0, 5));
        Check.due("its kind", 2, down.read(5, 8, 3, 3, 0));
        Check.due("not to those between them", 0, down.read(4, 8, 3, 3, 0));
    }
}
