import java.util.Arrays;
import java.util.List;
import java.util.function.ToIntFunction;

/**
 * Every call with every mixture of arguments at, just inside and just outside of their bounds, in
 * scenes in which other things fit an exception, too; each answer is held against PlainPast.
 */
final class Edges {
    private static final int LEAST = Integer.MIN_VALUE;
    private static final int GREATEST = Integer.MAX_VALUE;
    private static final int[] OBJECTS = {LEAST, -1, 0, 11, 12, GREATEST};
    private static final int[] FIELDS = {LEAST, -1, 0, 3, 4, GREATEST};
    private static final int[] KINDS = {LEAST, -1, 0, 1, 2, 3, GREATEST};
    private static final int[] VALUES = {LEAST, -1, 0, 11, 12, GREATEST};
    private static final int[] WHATS = {LEAST, -1, 0, 1, 2, 3, 4, GREATEST};
    private static final int[] PLACES = {LEAST, -1, 0, 1, 2, 47, 48, 119, 120, GREATEST};
    private static final int[] BRANCHES = {LEAST, -1, 0, 1, 2, 3, 4, 5, 6, GREATEST};
    private static final int[] MOMENTS =
            {LEAST, -1, 0, 1, 2, 3, 4, 5, 6, 7, 119, 120, 121, GREATEST};
    private static final int[] BYTES = {0, 1, 32, 33, 126, 127, 128, 255};

    private static final Scene SMALL = Readable.FORKED.then(Scenes.text("*^0~"));
    private static final Scene TRIMMED = SMALL.then(memory -> {
        memory.write(1, 11, 3, 2, 0);
        memory.close(2);
        memory.trim(3);
    });
    private static final Scene CROWDED = TRIMMED.then(memory -> {
        memory.branch(1, 7);
        memory.branch(3, 7);
        memory.branch(0, 3);
    });
    private static final Scene FULL = Scenes.branches(2).then(memory -> {
        memory.write(1, 11, 3, 1, 5);
        memory.close(2);
        for (int made = 1; made < 120; made++) {
            memory.write(0, made % 12, 1, 2, made % 7);
        }
        Scenes.text("a.1~[3=5]?0^3~.2*.1.2.3.1.2.3.1~").play(memory);
    });
    private static final Scene LAST_OPEN = memory -> {
        memory.branch(0, 0);
        memory.close(0);
    };

    private final Scene scene;
    private Past past;
    private PlainPast plain;

    private Edges(Scene scene) {
        this.scene = scene;
        renew();
    }

    static void all() {
        for (Scene scene : List.of(Scenes.NEW, SMALL, TRIMMED, CROWDED, FULL, LAST_OPEN)) {
            Edges edges = new Edges(scene);
            edges.branches();
            edges.writes();
            edges.reads();
            edges.pairs();
            edges.words();
            edges.others();
        }
    }

    private void renew() {
        past = scene.past();
        plain = new PlainPast();
        scene.play(plain);
    }

    /** Asks both; an answer may have changed them, so that the scene is played anew. */
    private void same(boolean changes, ToIntFunction<Memory> call, String name, int... arguments) {
        if (past.callsLeft() == 0) {
            past = scene.past();
        }
        String want = Answer.of(() -> call.applyAsInt(plain));
        String got = Answer.of(() -> call.applyAsInt(past));
        Check.due(name + Arrays.toString(arguments), want, got);
        if (changes && !(want.startsWith("throws") && want.equals(got))) {
            renew();
        }
    }

    private void branches() {
        for (int branch : BRANCHES) {
            for (int moment : MOMENTS) {
                same(true, memory -> memory.branch(branch, moment), "branch", branch, moment);
                same(false, memory -> memory.find(branch, moment), "find", branch, moment);
                for (int object : OBJECTS) {
                    same(false, memory -> memory.reach(branch, moment, object), "reach", branch,
                            moment, object);
                }
            }
            same(true, memory -> {
                memory.close(branch);
                return 0;
            }, "close", branch);
            for (int what : WHATS) {
                same(false, memory -> memory.about(branch, what), "about", branch, what);
            }
        }
    }

    private void writes() {
        for (int branch : BRANCHES) {
            for (int object : OBJECTS) {
                for (int field : FIELDS) {
                    for (int kind : KINDS) {
                        for (int value : VALUES) {
                            same(true, memory -> memory.write(branch, object, field, kind, value),
                                    "write", branch, object, field, kind, value);
                        }
                    }
                }
            }
        }
    }

    private void reads() {
        for (int branch : BRANCHES) {
            for (int object : OBJECTS) {
                for (int field : FIELDS) {
                    for (int moment : MOMENTS) {
                        for (int what : WHATS) {
                            same(false, memory -> memory.read(branch, moment, object, field, what),
                                    "read", branch, moment, object, field, what);
                        }
                    }
                    for (int k : PLACES) {
                        same(false, memory -> memory.history(branch, object, field, k), "history",
                                branch, object, field, k);
                    }
                }
            }
        }
    }

    private void pairs() {
        for (int one : BRANCHES) {
            for (int two : BRANCHES) {
                for (int k : PLACES) {
                    same(false, memory -> memory.differs(one, two, k), "differs", one, two, k);
                }
                same(false, memory -> memory.meeting(one, two), "meeting", one, two);
                same(true, memory -> memory.join(one, two), "join", one, two);
            }
        }
    }

    private void words() {
        for (int first : BYTES) {
            for (int second : BYTES) {
                for (int third : BYTES) {
                    for (int fourth : BYTES) {
                        int word = first << 24 | second << 16 | third << 8 | fourth;
                        same(true, memory -> memory.type(word), "type", word);
                    }
                }
            }
        }
    }

    private void others() {
        for (int moment : MOMENTS) {
            same(true, memory -> memory.trim(moment), "trim", moment);
        }
        for (int what : WHATS) {
            same(false, memory -> memory.state(what), "state", what);
        }
    }
}
