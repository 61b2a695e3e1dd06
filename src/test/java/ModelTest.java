import java.util.function.ToIntFunction;

/** Long runs of calls, drawn from fixed seeds, each answer compared with that of PlainPast. */
public final class ModelTest {
    private static final int RUNS = 150;

    private final Past past = new Past();
    private final PlainPast plain = new PlainPast();
    private final String run;
    /** How many objects and fields the run mostly uses: with few of them, writes meet often. */
    private final int objects;
    private final int fields;
    private final int trims;
    private long seed;

    private ModelTest(int run) {
        this.run = "run " + run;
        seed = 1000003L * run + 12345;
        objects = new int[] {2, 4, 12}[run % 3];
        fields = run % 2 == 0 ? 2 : 4;
        trims = new int[] {0, 2, 6}[run / 3 % 3];
    }

    public static void main(String[] args) {
        for (int run = 0; run < RUNS; run++) {
            ModelTest test = new ModelTest(run);
            while (test.past.callsLeft() > 0) {
                test.oneCall();
            }
        }
        Check.end("ModelTest");
    }

    /** A number from 0 to below the bound. */
    private int draw(int bound) {
        seed = seed * 6364136223846793005L + 1442695040888963407L;
        return (int) Math.floorMod(seed >>> 33, (long) bound);
    }

    /** Mostly a number from 0 to below the bound, now and then one just outside. */
    private int near(int bound) {
        int drawn = draw(40);
        return drawn == 0 ? -1 : drawn == 1 ? bound : draw(bound);
    }

    private int someBranch() {
        return near(plain.state(3));
    }

    /** Mostly an open branch. */
    private int openBranch() {
        int branch = someBranch();
        for (int tries = 0; tries < 4; tries++) {
            if (branch < 0 || branch >= plain.state(3) || plain.about(branch, 0) == 1) {
                return branch;
            }
            branch = someBranch();
        }
        return branch;
    }

    private int someObject() {
        return draw(60) == 0 ? near(12) : draw(objects);
    }

    private int someField() {
        return draw(60) == 0 ? near(4) : draw(fields);
    }

    /** Mostly a moment at which a branch can be read, with the edges drawn often. */
    private int someMoment(int branch) {
        int first = plain.state(1);
        if (branch >= 0 && branch < plain.state(3)) {
            first = Math.max(first, plain.about(branch, 2));
        }
        int clock = plain.state(0);
        return switch (draw(8)) {
            case 0 -> first;
            case 1 -> first - 1 + draw(3);
            case 2, 3 -> clock;
            case 4 -> clock + 1 - draw(3);
            default -> first + draw(clock - first + 1);
        };
    }

    /** Asks both, as long as the object has calls left. */
    private void same(String name, ToIntFunction<Memory> call) {
        if (past.callsLeft() > 0) {
            Check.due(run + ": " + name, Answer.of(() -> call.applyAsInt(plain)),
                    Answer.of(() -> call.applyAsInt(past)));
        }
    }

    private void oneCall() {
        int drawn = draw(100);
        if (drawn < 35) {
            write();
        } else if (drawn < 45) {
            read();
        } else if (drawn < 50) {
            history();
        } else if (drawn < 57) {
            pair();
        } else if (drawn < 65) {
            join();
        } else if (drawn < 68) {
            branch();
        } else if (drawn < 70) {
            close();
        } else if (drawn < 70 + trims) {
            trim();
        } else if (drawn < 80) {
            reach();
        } else if (drawn < 95) {
            path();
        } else {
            asked();
        }
    }

    private void write() {
        int branch = openBranch();
        int object = someObject();
        int field = someField();
        int kind = draw(40) == 0 ? near(3) : draw(5) == 0 ? 0 : 1 + draw(2);
        int value = draw(60) == 0 ? near(12) : draw(3) == 0 ? draw(objects) : draw(2);
        same("write " + branch + " " + object + " " + field + " " + kind + " " + value,
                memory -> memory.write(branch, object, field, kind, value));
    }

    private void read() {
        int branch = openBranch();
        int moment = someMoment(branch);
        int object = someObject();
        int field = someField();
        int what = near(3);
        same("read " + branch + " " + moment + " " + object + " " + field + " " + what,
                memory -> memory.read(branch, moment, object, field, what));
    }

    private void history() {
        int branch = someBranch();
        int object = someObject();
        int field = someField();
        int k = near(6);
        same("history " + branch + " " + object + " " + field + " " + k,
                memory -> memory.history(branch, object, field, k));
    }

    private void pair() {
        int one = openBranch();
        int two = openBranch();
        int k = near(5);
        same("differs " + one + " " + two + " " + k, memory -> memory.differs(one, two, k));
        int three = someBranch();
        same("meeting " + one + " " + three, memory -> memory.meeting(one, three));
    }

    private void join() {
        int from = openBranch();
        int to = openBranch();
        same("join " + from + " " + to, memory -> memory.join(from, to));
    }

    private void branch() {
        int parent = openBranch();
        int moment = someMoment(parent);
        same("branch " + parent + " " + moment, memory -> memory.branch(parent, moment));
    }

    private void close() {
        // Closed branches are few at first, so that the later calls have several to use.
        int branch = draw(3) == 0 ? someBranch() : plain.state(3);
        same("close " + branch, memory -> {
            memory.close(branch);
            return 0;
        });
    }

    private void trim() {
        int horizon = plain.state(1);
        int moment = draw(3) > 0 ? horizon - 1 + draw(12) : someMoment(0);
        same("trim " + moment, memory -> memory.trim(moment));
    }

    private void reach() {
        int branch = openBranch();
        int moment = someMoment(branch);
        int object = someObject();
        same("reach " + branch + " " + moment + " " + object,
                memory -> memory.reach(branch, moment, object));
    }

    private void path() {
        if (draw(3) > 0) {
            same("erase", memory -> {
                memory.erase();
                return 0;
            });
            String text = somePath();
            for (int at = 0; at < text.length(); at += 4) {
                type(Scenes.word(text.substring(at, Math.min(at + 4, text.length()))));
            }
        }
        if (draw(10) == 0) {
            type(draw(1 << 30) << 2 | draw(4));
        }
        int branch = openBranch();
        int moment = someMoment(branch);
        same("find " + branch + " " + moment, memory -> memory.find(branch, moment));
    }

    private void type(int word) {
        same("type " + word, memory -> memory.type(word));
    }

    private String somePath() {
        StringBuilder path = new StringBuilder();
        path.append(draw(3) == 0 ? '*' : (char) ('a' + draw(objects)));
        for (int left = draw(5); left > 0; left--) {
            path.append(someStep());
        }
        if (draw(4) == 0) {
            int at = draw(path.length());
            path.setCharAt(at, ".^~[]?<=>-0123459abclm*".charAt(draw(23)));
        }
        if (draw(10) == 0) {
            path.deleteCharAt(draw(path.length()));
        }
        return path.toString();
    }

    private String someStep() {
        int field = draw(fields);
        return switch (draw(6)) {
            case 0 -> "." + field;
            case 1 -> "^" + field;
            case 2 -> "." + field + "~";
            case 3 -> "^" + field + "~";
            case 4 -> "[" + field + "<=>".charAt(draw(3)) + (draw(4) - 1) + "]";
            default -> "?" + field;
        };
    }

    private void asked() {
        int what = near(4);
        same("state " + what, memory -> memory.state(what));
        int branch = someBranch();
        same("about " + branch + " " + what, memory -> memory.about(branch, what));
    }
}
