/** What the document says first: what the memory is, and how many calls it stands. */
public final class WhatItIsTest {
    private WhatItIsTest() {
    }

    public static void main(String[] args) {
        Sentences first = new Sentences("What it is");
        first.test("A memory of objects in which nothing is written over: each field can be read "
                + "as it was at any moment, on any branch", WhatItIsTest::nothingIsWrittenOver);
        first.test("lines of time branch off and come together again",
                WhatItIsTest::comeTogetherAgain);
        first.test("what nobody can read any more is let go", WhatItIsTest::isLetGo);
        first.test("and objects are asked for by paths", WhatItIsTest::askedForByPaths);
        first.test("An object is used for at most 512 calls after it has been made; what later "
                + "calls answer is free", WhatItIsTest::standsFor512Calls);
        first.end();
    }

    private static void nothingIsWrittenOver() {
        Past past = Scenes.writes(100).past();
        past.branch(0, 50);
        for (int number = 101; number <= 110; number++) {
            past.write(1, 0, 0, 1, number);
        }
        for (int moment = 1; moment <= 110; moment++) {
            Check.due("on 0", Math.min(moment, 100), past.read(0, moment, 0, 0, 1));
        }
        for (int moment = 50; moment <= 110; moment++) {
            Check.due("on 1", moment <= 100 ? 50 : moment, past.read(1, moment, 0, 0, 1));
        }
    }

    private static void comeTogetherAgain() {
        Past past = Scenes.branches(2).past();
        past.write(1, 0, 0, 1, 1);
        past.write(2, 1, 1, 1, 2);
        Check.due("1 to 0", 0, past.join(1, 0));
        Check.due("2 to 0", 0, past.join(2, 0));
        Check.due("of 1", 1, past.read(0, 4, 0, 0, 1));
        Check.due("of 2", 2, past.read(0, 4, 1, 1, 1));
    }

    private static void isLetGo() {
        Past past = Scenes.FULL.past();
        Check.due("all but the last one", 119, past.trim(120));
        Check.due("it is read still", 120, past.read(0, 120, 0, 0, 1));
    }

    private static void askedForByPaths() {
        Past past = Scenes.text("a.1").past();
        past.write(0, 0, 1, 2, 5);
        Check.due("a.1", 32, past.find(0, 1));
    }

    private static void standsFor512Calls() {
        Past asked = new Past();
        while (asked.callsLeft() > 1) {
            asked.find(0, 0);
        }
        Check.due("the 512th answers", 1, asked.write(0, 0, 0, 1, 1));
        Past written = new Past();
        int clock = 0;
        while (written.callsLeft() > 0) {
            if (written.callsLeft() % 64 == 0) {
                written.trim(clock);
            } else {
                clock++;
                Check.due("write", clock, written.write(0, clock % 12, clock % 4, 1, clock));
            }
        }
        Check.due("writes but for eight trims", 504, clock);
        lateMoments();
    }

    /** Moments far behind the 120th are read as well as the first ones. */
    private static void lateMoments() {
        Scene late = memory -> {
            for (int moment = 1; moment <= 400; moment++) {
                memory.write(0, 0, 0, 1, moment);
                if (moment % 100 == 0) {
                    memory.trim(moment);
                }
            }
            memory.write(0, 0, 0, 2, 7);
            memory.branch(0, 400);
        };
        Past past = late.past();
        Check.due("horizon", 400, past.state(1));
        Check.due("clock", 401, past.state(0));
        Check.due("fork", 400, past.about(1, 2));
        Check.due("meeting", 400, past.meeting(0, 1));
        Check.due("value", 400, past.read(1, 401, 0, 0, 1));
        Check.due("moment", 400, past.read(1, 401, 0, 0, 2));
        Check.due("history", 401, past.history(0, 0, 0, 1));
        Check.due("reach", 129, past.reach(0, 401, 0));
        Check.due("reach on the branch", 1, past.reach(1, 401, 0));
        Check.due("join", 0, past.join(0, 1));
        Check.due("moment of the join", 402, past.read(1, 402, 0, 0, 2));
        Check.refused("after the clock", Check.ARGUMENT, late,
                memory -> memory.read(0, 402, 0, 0, 0));
        Check.refused("before the horizon", Check.ARGUMENT, late,
                memory -> memory.read(0, 399, 0, 0, 0));
    }
}
