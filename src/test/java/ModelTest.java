import java.util.function.IntSupplier;

/** Long runs of calls, drawn from fixed seeds, each answer compared with that of PlainPast. */
public final class ModelTest {
    private static final int RUNS = 150;
    private static final int CALLS = 512;

    private final BranchedPast past = new BranchedPast();
    private final PlainPast plain = new PlainPast();
    private final String run;
    /** How many objects and fields the run mostly uses: with few of them, writes meet often. */
    private final int objects;
    private final int fields;
    private final int trims;
    private long seed;

    private ModelTest(int run) {
        this.run = "run " + run;
        seed = 1000003L * run + 12345;
        objects = new int[] {2, 4, 12}[run % 3];
        fields = run % 2 == 0 ? 2 : 4;
        trims = new int[] {0, 2, 6}[run / 3 % 3];
    }

    public static void main(String[] args) {
        for (int run = 0; run < RUNS; run++) {
            ModelTest test = new ModelTest(run);
            for (int call = 0; call < CALLS; call++) {
                test.oneCall();
            }
        }
        Check.end("ModelTest");
    }

    /** A number from 0 to below the bound. */
    private int draw(int bound) {
        seed = seed * 6364136223846793005L + 1442695040888963407L;
        return (int) Math.floorMod(seed >>> 33, (long) bound);
    }

    /** Mostly a number from 0 to below the bound, now and then one just outside. */
    private int near(int bound) {
        int drawn = draw(40);
        return drawn == 0 ? -1 : drawn == 1 ? bound : draw(bound);
    }

    private int someBranch() {
        return near(past.state(3));
    }

    /** Mostly an open branch. */
    private int openBranch() {
        int branch = someBranch();
        for (int tries = 0; tries < 4; tries++) {
            if (branch < 0 || branch >= past.state(3) || past.about(branch, 0) == 1) {
                return branch;
            }
            branch = someBranch();
        }
        return branch;
    }

    private int someObject() {
        return draw(60) == 0 ? near(12) : draw(objects);
    }

    private int someField() {
        return draw(60) == 0 ? near(4) : draw(fields);
    }

    /** Mostly a moment at which a branch can be read, with the edges drawn often. */
    private int someMoment(int branch) {
        int first = past.state(1);
        if (branch >= 0 && branch < past.state(3)) {
            first = Math.max(first, past.about(branch, 2));
        }
        int clock = past.state(0);
        return switch (draw(8)) {
            case 0 -> first;
            case 1 -> first - 1 + draw(3);
            case 2, 3 -> clock;
            case 4 -> clock + 1 - draw(3);
            default -> first + draw(clock - first + 1);
        };
    }

    private void same(String call, IntSupplier wanted, IntSupplier got) {
        Check.due(run + ": " + call, answer(wanted), answer(got));
    }

    private static Object answer(IntSupplier call) {
        try {
            return call.getAsInt();
        } catch (RuntimeException thrown) {
            return thrown.getClass();
        }
    }

    private void oneCall() {
        int drawn = draw(100);
        if (drawn < 35) {
            write();
        } else if (drawn < 45) {
            read();
        } else if (drawn < 50) {
            history();
        } else if (drawn < 57) {
            pair();
        } else if (drawn < 65) {
            join();
        } else if (drawn < 68) {
            branch();
        } else if (drawn < 70) {
            close();
        } else if (drawn < 70 + trims) {
            trim();
        } else if (drawn < 80) {
            reach();
        } else if (drawn < 95) {
            path();
        } else {
            asked();
        }
    }

    private void write() {
        int branch = openBranch();
        int object = someObject();
        int field = someField();
        int kind = draw(40) == 0 ? near(3) : draw(5) == 0 ? 0 : 1 + draw(2);
        int value = draw(60) == 0 ? near(12) : draw(3) == 0 ? draw(objects) : draw(2);
        same("write " + branch + " " + object + " " + field + " " + kind + " " + value,
                () -> plain.write(branch, object, field, kind, value),
                () -> past.write(branch, object, field, kind, value));
    }

    private void read() {
        int branch = openBranch();
        int moment = someMoment(branch);
        int object = someObject();
        int field = someField();
        int what = near(3);
        same("read " + branch + " " + moment + " " + object + " " + field + " " + what,
                () -> plain.read(branch, moment, object, field, what),
                () -> past.read(branch, moment, object, field, what));
    }

    private void history() {
        int branch = someBranch();
        int object = someObject();
        int field = someField();
        int k = near(6);
        same("history " + branch + " " + object + " " + field + " " + k,
                () -> plain.history(branch, object, field, k),
                () -> past.history(branch, object, field, k));
    }

    private void pair() {
        int one = openBranch();
        int two = openBranch();
        int k = near(5);
        same("differs " + one + " " + two + " " + k, () -> plain.differs(one, two, k),
                () -> past.differs(one, two, k));
        int three = someBranch();
        same("meeting " + one + " " + three, () -> plain.meeting(one, three),
                () -> past.meeting(one, three));
    }

    private void join() {
        int from = openBranch();
        int to = openBranch();
        same("join " + from + " " + to, () -> plain.join(from, to), () -> past.join(from, to));
    }

    private void branch() {
        int parent = openBranch();
        int moment = someMoment(parent);
        same("branch " + parent + " " + moment, () -> plain.branch(parent, moment),
                () -> past.branch(parent, moment));
    }

    private void close() {
        // Closed branches are few at first, so that the later calls have several to use.
        int branch = draw(3) == 0 ? someBranch() : past.state(3);
        same("close " + branch, () -> plain.close(branch), () -> {
            past.close(branch);
            return 0;
        });
    }

    private void trim() {
        int horizon = past.state(1);
        int moment = draw(3) > 0 ? horizon - 1 + draw(12) : someMoment(0);
        same("trim " + moment, () -> plain.trim(moment), () -> past.trim(moment));
    }

    private void reach() {
        int branch = openBranch();
        int moment = someMoment(branch);
        int object = someObject();
        same("reach " + branch + " " + moment + " " + object,
                () -> plain.reach(branch, moment, object),
                () -> past.reach(branch, moment, object));
    }

    private void path() {
        if (draw(3) > 0) {
            same("erase", plain::erase, () -> {
                past.erase();
                return 0;
            });
            String text = somePath();
            for (int at = 0; at < text.length(); at += 4) {
                type(Text.word(text.substring(at, Math.min(at + 4, text.length()))));
            }
        }
        if (draw(10) == 0) {
            type(draw(1 << 30) << 2 | draw(4));
        }
        int branch = openBranch();
        int moment = someMoment(branch);
        same("find " + branch + " " + moment, () -> plain.find(branch, moment),
                () -> past.find(branch, moment));
    }

    private void type(int word) {
        same("type " + word, () -> plain.type(word), () -> past.type(word));
    }

    private String somePath() {
        StringBuilder path = new StringBuilder();
        path.append(draw(3) == 0 ? '*' : (char) ('a' + draw(objects)));
        for (int left = draw(5); left > 0; left--) {
            path.append(someStep());
        }
        if (draw(4) == 0) {
            int at = draw(path.length());
            path.setCharAt(at, ".^~[]?<=>-0123459abclm*".charAt(draw(23)));
        }
        if (draw(10) == 0) {
            path.deleteCharAt(draw(path.length()));
        }
        return path.toString();
    }

    private String someStep() {
        int field = draw(fields);
        return switch (draw(6)) {
            case 0 -> "." + field;
            case 1 -> "^" + field;
            case 2 -> "." + field + "~";
            case 3 -> "^" + field + "~";
            case 4 -> "[" + field + "<=>".charAt(draw(3)) + (draw(4) - 1) + "]";
            default -> "?" + field;
        };
    }

    private void asked() {
        int what = near(4);
        same("state " + what, () -> plain.state(what), () -> past.state(what));
        int branch = someBranch();
        same("about " + branch + " " + what, () -> plain.about(branch, what),
                () -> past.about(branch, what));
    }
}
