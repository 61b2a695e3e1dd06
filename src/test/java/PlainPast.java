import java.util.ArrayList;
import java.util.List;
import java.util.Set;
import java.util.TreeSet;
import java.util.regex.Matcher;
import java.util.regex.Pattern;

/**
 * The document's words in their plainest form, moment by moment and without any thought of speed,
 * as something to compare the program with.
 */
final class PlainPast implements Memory {
    record Value(int kind, int content) {
        static final Value NOTHING = new Value(0, 0);
    }

    record Write(int branch, int moment, int object, int field, Value value) {
    }

    private record Branch(int parent, int fork) {
    }

    private static final String STEP =
            "([.^])([0-3])(~?)|\\[([0-3])([<=>])(-?[0-9]{1,4})\\]|\\?([0-3])";
    private static final Pattern PATH = Pattern.compile("([a-l*])(" + STEP + ")*");

    private final List<Branch> branches = new ArrayList<>(List.of(new Branch(-1, 0)));
    private final Set<Integer> open = new TreeSet<>(Set.of(0));
    private List<Write> writes = new ArrayList<>();
    private String text = "";
    private int clock = 0;
    private int horizon = 0;

    private static void index(boolean fits) {
        if (!fits) {
            throw new IndexOutOfBoundsException();
        }
    }

    private static void argument(boolean fits) {
        if (!fits) {
            throw new IllegalArgumentException();
        }
    }

    private static void state(boolean fits) {
        if (!fits) {
            throw new IllegalStateException();
        }
    }

    private static void supported(boolean fits) {
        if (!fits) {
            throw new UnsupportedOperationException();
        }
    }

    private static boolean within(int number, int end) {
        return 0 <= number && number < end;
    }

    private boolean isBranch(int branch) {
        return within(branch, branches.size());
    }

    private boolean canBeRead(int branch, int moment) {
        return open.contains(branch) && moment >= branches.get(branch).fork() && moment >= horizon
                && moment <= clock;
    }

    private boolean inSight(Write write, int branch, int moment) {
        if (write.branch() == branch && write.moment() <= moment) {
            return true;
        }
        Branch its = branches.get(branch);
        return its.parent() != -1 && inSight(write, its.parent(), Math.min(moment, its.fork()));
    }

    private Write reading(int branch, int moment, int object, int field) {
        Write latest = null;
        for (Write write : writes) {
            boolean fits = write.object() == object && write.field() == field;
            if (fits && (latest == null || write.moment() > latest.moment())
                    && inSight(write, branch, moment)) {
                latest = write;
            }
        }
        return latest;
    }

    private Value value(int branch, int moment, int object, int field) {
        Write write = reading(branch, moment, object, field);
        return write == null ? Value.NOTHING : write.value();
    }

    private void add(int branch, int object, int field, Value value) {
        clock++;
        writes.add(new Write(branch, clock, object, field, value));
    }

    @Override
    public int branch(int parent, int moment) {
        index(isBranch(parent));
        argument(canBeRead(parent, moment));
        state(branches.size() < 6);
        branches.add(new Branch(parent, moment));
        open.add(branches.size() - 1);
        return branches.size() - 1;
    }

    @Override
    public void close(int branch) {
        index(isBranch(branch));
        state(open.contains(branch) && open.size() > 1);
        open.remove(branch);
    }

    @Override
    public int write(int branch, int object, int field, int kind, int value) {
        index(isBranch(branch) && within(object, 12) && within(field, 4));
        argument(within(kind, 3) && (kind != 2 || within(value, 12)));
        state(open.contains(branch));
        supported(writes.size() < 120);
        add(branch, object, field, kind == 0 ? Value.NOTHING : new Value(kind, value));
        return clock;
    }

    @Override
    public int read(int branch, int moment, int object, int field, int what) {
        index(isBranch(branch) && within(object, 12) && within(field, 4));
        argument(canBeRead(branch, moment) && within(what, 3));
        Write write = reading(branch, moment, object, field);
        Value value = value(branch, moment, object, field);
        return new int[] {value.kind(), value.content(), write == null ? -1 : write.moment()}[what];
    }

    @Override
    public int history(int branch, int object, int field, int k) {
        index(isBranch(branch) && within(object, 12) && within(field, 4));
        Set<Integer> moments = new TreeSet<>();
        for (int moment = 0; moment <= clock; moment++) {
            if (canBeRead(branch, moment)) {
                Write given = reading(branch, moment, object, field);
                if (given != null) {
                    moments.add(given.moment());
                }
            }
        }
        return within(k, moments.size()) ? new ArrayList<>(moments).get(k) : -1;
    }

    @Override
    public int differs(int one, int two, int k) {
        index(isBranch(one) && isBranch(two));
        state(open.contains(one) && open.contains(two));
        List<Integer> different = new ArrayList<>();
        for (int cell = 0; cell < 48; cell++) {
            Value first = value(one, clock, cell / 4, cell % 4);
            if (!first.equals(value(two, clock, cell / 4, cell % 4))) {
                different.add(cell);
            }
        }
        return within(k, different.size()) ? different.get(k) : -1;
    }

    private List<Integer> line(int branch) {
        List<Integer> line = new ArrayList<>();
        for (int on = branch; on != -1; on = branches.get(on).parent()) {
            line.add(on);
        }
        return line;
    }

    private int left(int branch, int shared) {
        for (int on : line(branch)) {
            if (branches.get(on).parent() == shared) {
                return branches.get(on).fork();
            }
        }
        return clock;
    }

    @Override
    public int meeting(int one, int two) {
        index(isBranch(one) && isBranch(two));
        List<Integer> other = line(two);
        int shared = line(one).stream().filter(other::contains).findFirst().orElseThrow();
        int first = one == shared ? clock : left(one, shared);
        int second = two == shared ? clock : left(two, shared);
        return Math.min(first, second);
    }

    @Override
    public int join(int from, int to) {
        index(isBranch(from) && isBranch(to));
        argument(from != to);
        state(open.contains(from) && open.contains(to) && meeting(from, to) >= horizon);
        int met = meeting(from, to);
        List<Write> wanted = new ArrayList<>();
        int conflicts = 0;
        for (int cell = 0; cell < 48; cell++) {
            int object = cell / 4;
            int field = cell % 4;
            Value now = value(from, clock, object, field);
            Value there = value(to, clock, object, field);
            if (!now.equals(value(from, met, object, field)) && !now.equals(there)) {
                wanted.add(new Write(to, 0, object, field, now));
                conflicts += there.equals(value(to, met, object, field)) ? 0 : 1;
            }
        }
        if (conflicts == 0) {
            supported(writes.size() + wanted.size() <= 120);
            wanted.forEach(write -> add(to, write.object(), write.field(), write.value()));
        }
        return conflicts;
    }

    @Override
    public int trim(int moment) {
        argument(moment >= horizon && moment <= clock);
        horizon = moment;
        Set<Integer> given = new TreeSet<>();
        for (int branch : open) {
            for (int then = 0; then <= clock; then++) {
                if (canBeRead(branch, then)) {
                    addGiven(given, branch, then);
                }
            }
        }
        int before = writes.size();
        writes = new ArrayList<>(writes.stream().filter(w -> given.contains(w.moment())).toList());
        return before - writes.size();
    }

    private void addGiven(Set<Integer> given, int branch, int moment) {
        for (int cell = 0; cell < 48; cell++) {
            Write write = reading(branch, moment, cell / 4, cell % 4);
            if (write != null) {
                given.add(write.moment());
            }
        }
    }

    private static int sum(Set<Integer> objects) {
        return objects.stream().mapToInt(object -> 1 << object).sum();
    }

    @Override
    public int reach(int branch, int moment, int object) {
        index(isBranch(branch) && within(object, 12));
        argument(canBeRead(branch, moment));
        Set<Integer> found = new TreeSet<>(Set.of(object));
        for (int round = 0; round < 12; round++) {
            for (int field = 0; field < 4; field++) {
                found.addAll(step(found, ".", field, branch, moment));
            }
        }
        return sum(found);
    }

    @Override
    public int type(int word) {
        StringBuilder added = new StringBuilder();
        for (int shift = 24; shift >= 0; shift -= 8) {
            int part = word >> shift & 255;
            argument(part == 0 || part >= 33 && part <= 126);
            if (part != 0) {
                added.append((char) part);
            }
        }
        state(text.length() + added.length() <= 32);
        text += added;
        return text.length();
    }

    @Override
    public void erase() {
        text = "";
    }

    @Override
    public int find(int branch, int moment) {
        index(isBranch(branch));
        argument(canBeRead(branch, moment));
        if (!PATH.matcher(text).matches()) {
            return -1;
        }
        Set<Integer> set = new TreeSet<>();
        for (int object = 0; object < 12; object++) {
            if (text.charAt(0) == '*' || text.charAt(0) == 'a' + object) {
                set.add(object);
            }
        }
        Matcher steps = Pattern.compile(STEP).matcher(text.substring(1));
        while (steps.find()) {
            set = followed(set, steps, branch, moment);
        }
        return sum(set);
    }

    private Set<Integer> followed(Set<Integer> set, Matcher step, int branch, int moment) {
        if (step.group(1) != null) {
            int field = Integer.parseInt(step.group(2));
            Set<Integer> found = step(set, step.group(1), field, branch, moment);
            if (step.group(3).isEmpty()) {
                return found;
            }
            Set<Integer> all = new TreeSet<>(set);
            for (int round = 0; round < 12; round++) {
                all.addAll(step(all, step.group(1), field, branch, moment));
            }
            return all;
        }
        Set<Integer> kept = new TreeSet<>();
        for (int object : set) {
            if (step.group(4) != null) {
                Value value = value(branch, moment, object, Integer.parseInt(step.group(4)));
                if (value.kind() == 1 && compares(value.content(), step.group(5),
                        Integer.parseInt(step.group(6)))) {
                    kept.add(object);
                }
            } else if (value(branch, moment, object, Integer.parseInt(step.group(7))).kind() == 0) {
                kept.add(object);
            }
        }
        return kept;
    }

    private static boolean compares(int number, String sign, int bound) {
        return switch (sign) {
            case "<" -> number < bound;
            case "=" -> number == bound;
            default -> number > bound;
        };
    }

    private Set<Integer> step(Set<Integer> set, String sign, int field, int branch, int moment) {
        Set<Integer> found = new TreeSet<>();
        for (int object = 0; object < 12; object++) {
            Value value = value(branch, moment, object, field);
            if (value.kind() == 2) {
                if (sign.equals(".") && set.contains(object)) {
                    found.add(value.content());
                }
                if (sign.equals("^") && set.contains(value.content())) {
                    found.add(object);
                }
            }
        }
        return found;
    }

    @Override
    public int state(int what) {
        argument(within(what, 4));
        return new int[] {clock, horizon, writes.size(), branches.size()}[what];
    }

    @Override
    public int about(int branch, int what) {
        index(isBranch(branch));
        argument(within(what, 4));
        int own = (int) writes.stream().filter(write -> write.branch() == branch).count();
        Branch its = branches.get(branch);
        return new int[] {open.contains(branch) ? 1 : 0, its.parent(), its.fork(), own}[what];
    }
}
