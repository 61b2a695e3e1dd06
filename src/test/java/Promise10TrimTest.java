/** Promise 10: trim. */
public final class Promise10TrimTest {
    private Promise10TrimTest() {
    }

    public static void main(String[] args) {
        Sentences promise = new Sentences("Promise 10: trim");
        promise.test("Trims", Promise10TrimTest::trims);
        promise.test("answers how many writes went", Promise10TrimTest::howManyWritesWent);
        promise.test("IllegalArgumentException when moment is before the horizon",
                Promise10TrimTest::beforeTheHorizon);
        promise.test("or after the clock", Promise10TrimTest::afterTheClock);
        promise.end();
    }

    private static void trims() {
        Past past = Scenes.writes(5).past();
        past.write(0, 7, 1, 2, 3);
        past.trim(3);
        Check.due("horizon", 3, past.state(1));
        Check.due("clock", 6, past.state(0));
        Check.due("writes", 4, past.state(2));
        Check.due("at the horizon", 3, past.read(0, 3, 0, 0, 1));
        Check.due("its moment", 3, past.read(0, 3, 0, 0, 2));
        Check.due("behind it", 4, past.read(0, 4, 0, 0, 1));
        Check.due("another field", 3, past.read(0, 6, 7, 1, 1));
        past.trim(6);
        Check.due("horizon at the clock", 6, past.state(1));
        Check.due("one for each field", 2, past.state(2));
        keepsWhatForksRead();
        letsGoOfWhatClosedOnesRead();
    }

    private static void keepsWhatForksRead() {
        Past past = Scenes.writes(5).past();
        past.branch(0, 2);
        past.write(0, 0, 1, 0, 0);
        past.write(1, 0, 0, 1, 70);
        Check.due("all but two; nothing, written, is kept", 3, past.trim(6));
        Check.due("the fork's", 2, past.read(1, 6, 0, 0, 1));
        Check.due("its own", 70, past.read(1, 7, 0, 0, 1));
        Check.due("the parent's", 5, past.read(0, 6, 0, 0, 1));
        Check.due("nothing", 6, past.read(0, 6, 0, 1, 2));
        Check.due("the fork has its own now", 1, past.trim(7));
        Check.due("own writes of 0", 2, past.about(0, 3));
    }

    private static void letsGoOfWhatClosedOnesRead() {
        Past past = Scenes.writes(3).past();
        past.branch(0, 2);
        past.write(1, 0, 0, 1, 10);
        past.write(1, 0, 0, 1, 11);
        past.branch(1, 4);
        past.close(1);
        Check.due("what only a closed one reads", 1, past.trim(0));
        Check.due("what its child reads stays", 10, past.read(2, 5, 0, 0, 1));
        past.close(0);
        Check.due("what branch 0 reads, too", 3, past.trim(0));
        Check.due("own writes of 0", 0, past.about(0, 3));
        Check.due("one is left", 1, past.state(2));
        Past later = Scenes.writes(4).past();
        later.branch(0, 3);
        later.close(0);
        Check.due("only what is read from the fork on stays", 3, later.trim(1));
        Check.due("it is read", 3, later.read(1, 3, 0, 0, 2));
    }

    private static void howManyWritesWent() {
        Check.due("of none", 0, Scenes.NEW.past().trim(0));
        Past past = Scenes.writes(5).past();
        Check.due("at the first moment", 0, past.trim(0));
        Check.due("the one at the horizon is read still", 0, past.trim(1));
        Check.due("one", 1, past.trim(2));
        Check.due("none again", 0, past.trim(2));
        Check.due("two", 2, past.trim(4));
        Check.due("one is left", 1, past.trim(5));
        Check.due("writes", 1, past.state(2));
        Check.due("all but one of 120", 119, Scenes.FULL.past().trim(120));
        Scene unread = memory -> {
            memory.branch(0, 0);
            Scenes.FULL.play(memory);
            memory.close(0);
        };
        Past all = unread.past();
        Check.due("all 120", 120, all.trim(0));
        Check.due("none is left", 0, all.state(2));
        Check.due("the clock stays", 120, all.state(0));
    }

    private static void beforeTheHorizon() {
        refusedBefore(0, Scenes.NEW);
        refusedBefore(0, Scenes.writes(5));
        refusedBefore(3, Scenes.writes(5).then(memory -> memory.trim(3)));
        refusedBefore(5, Scenes.writes(5).then(memory -> memory.trim(5)));
    }

    private static void refusedBefore(int horizon, Scene scene) {
        Check.allowed("at the horizon", scene, memory -> memory.trim(horizon));
        Check.refused("one before", Check.ARGUMENT, scene, memory -> memory.trim(horizon - 1));
        Check.refused("before 0", Check.ARGUMENT, scene, memory -> memory.trim(-1));
        Check.refused("the least", Check.ARGUMENT, scene,
                memory -> memory.trim(Integer.MIN_VALUE));
    }

    private static void afterTheClock() {
        refusedAfter(0, Scenes.NEW);
        refusedAfter(5, Scenes.writes(5));
        refusedAfter(5, Scenes.writes(5).then(memory -> memory.trim(5)));
        refusedAfter(120, Scenes.FULL);
    }

    private static void refusedAfter(int clock, Scene scene) {
        Check.allowed("at the clock", scene, memory -> memory.trim(clock));
        Check.refused("one after", Check.ARGUMENT, scene, memory -> memory.trim(clock + 1));
        Check.refused("the greatest", Check.ARGUMENT, scene,
                memory -> memory.trim(Integer.MAX_VALUE));
    }
}
