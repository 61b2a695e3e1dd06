import java.util.Arrays;

/**
 * A memory of objects in which nothing is written over: each field can be read as it was at any
 * moment, on any branch; branches come together again, and writes that nobody can read are let go.
 */
public final class BranchedPast {
    public static final int NONE = -1;

    private static final int OBJECTS = 12;
    private static final int FIELDS = 4;
    private static final int CELLS = OBJECTS * FIELDS;
    private static final int MOST_BRANCHES = 6;
    private static final int MOST_WRITES = 120;
    private static final int LONGEST_TEXT = 32;

    private static final int NOTHING = 0;
    private static final int NUMBER = 1;
    private static final int REFERENCE = 2;

    private final Branches branches;
    private final Writes writes;
    private final View here;
    private final View there;
    private final View before;
    private final Path path;
    private int clock;
    private int horizon;

    public BranchedPast() {
        branches = new Branches();
        writes = new Writes();
        here = new View();
        there = new View();
        before = new View();
        path = new Path();
        clock = 0;
        horizon = 0;
    }

    public int branch(int parent, int moment)
            throws IndexOutOfBoundsException, IllegalArgumentException, IllegalStateException {
        requireBranch(parent);
        requireReadable(parent, moment);
        if (branches.count == MOST_BRANCHES) {
            throw new IllegalStateException("there are 6 branches");
        }
        return branches.add(parent, moment);
    }

    public void close(int branch) throws IndexOutOfBoundsException, IllegalStateException {
        requireBranch(branch);
        requireOpen(branch);
        if (branches.openCount() == 1) {
            throw new IllegalStateException("no other branch is open");
        }
        branches.open[branch] = false;
    }

    public int write(int branch, int object, int field, int kind, int value)
            throws IndexOutOfBoundsException, IllegalArgumentException, IllegalStateException,
            UnsupportedOperationException {
        requireBranch(branch);
        requireObject(object);
        requireField(field);
        if (!isValue(kind, value)) {
            throw new IllegalArgumentException("no such value");
        }
        requireOpen(branch);
        requireRoomFor(1);
        append(branch, cellOf(object, field), kind, kind == NOTHING ? 0 : value);
        return clock;
    }

    public int read(int branch, int moment, int object, int field, int what)
            throws IndexOutOfBoundsException, IllegalArgumentException {
        requireBranch(branch);
        requireObject(object);
        requireField(field);
        requireReadable(branch, moment);
        requireWhat(what, 2);
        look(here, branch, moment);
        int cell = cellOf(object, field);
        if (what == 0) {
            return here.kind[cell];
        }
        return what == 1 ? here.value[cell] : here.moment[cell];
    }

    public int history(int branch, int object, int field, int k) throws IndexOutOfBoundsException {
        requireBranch(branch);
        requireObject(object);
        requireField(field);
        writes.unmarkAll();
        markGiven(branch);
        return writes.momentOfMarked(cellOf(object, field), k);
    }

    public int differs(int one, int two, int k)
            throws IndexOutOfBoundsException, IllegalStateException {
        requireBranch(one);
        requireBranch(two);
        requireOpen(one);
        requireOpen(two);
        look(here, one, clock);
        look(there, two, clock);
        int seen = 0;
        for (int cell = 0; cell < CELLS; cell++) {
            if (!here.holdsSame(there, cell)) {
                if (seen == k) {
                    return cell;
                }
                seen++;
            }
        }
        return NONE;
    }

    public int meeting(int one, int two) throws IndexOutOfBoundsException {
        requireBranch(one);
        requireBranch(two);
        return branches.meet(one, two, clock);
    }

    public int join(int from, int to)
            throws IndexOutOfBoundsException, IllegalArgumentException, IllegalStateException,
            UnsupportedOperationException {
        requireBranch(from);
        requireBranch(to);
        if (from == to) {
            throw new IllegalArgumentException("a branch is not joined to itself");
        }
        requireOpen(from);
        requireOpen(to);
        int met = branches.meet(from, to, clock);
        if (met < horizon) {
            throw new IllegalStateException("the meeting is before the horizon");
        }
        look(here, from, clock);
        look(there, to, clock);
        look(before, from, met);
        int conflicts = countConflicts();
        if (conflicts == 0) {
            requireRoomFor(countCarried());
            carryTo(to);
        }
        return conflicts;
    }

    public int trim(int moment) throws IllegalArgumentException {
        if (moment < horizon || moment > clock) {
            throw new IllegalArgumentException("not between the horizon and the clock");
        }
        horizon = moment;
        writes.unmarkAll();
        for (int branch = 0; branch < branches.count; branch++) {
            markGiven(branch);
        }
        return writes.dropUnmarked();
    }

    public int reach(int branch, int moment, int object)
            throws IndexOutOfBoundsException, IllegalArgumentException {
        requireBranch(branch);
        requireObject(object);
        requireReadable(branch, moment);
        look(here, branch, moment);
        return here.allLedTo(1 << object);
    }

    public int type(int word) throws IllegalArgumentException, IllegalStateException {
        if (!path.canHold(word)) {
            throw new IllegalArgumentException("a byte is not 33 .. 126");
        }
        if (!path.hasRoomFor(word)) {
            throw new IllegalStateException("the text would be longer than 32");
        }
        return path.add(word);
    }

    public void erase() {
        path.clear();
    }

    public int find(int branch, int moment)
            throws IndexOutOfBoundsException, IllegalArgumentException {
        requireBranch(branch);
        requireReadable(branch, moment);
        look(here, branch, moment);
        return path.follow(here);
    }

    public int state(int what) throws IllegalArgumentException {
        requireWhat(what, 3);
        if (what == 0) {
            return clock;
        }
        if (what == 1) {
            return horizon;
        }
        return what == 2 ? writes.count : branches.count;
    }

    public int about(int branch, int what)
            throws IndexOutOfBoundsException, IllegalArgumentException {
        requireBranch(branch);
        requireWhat(what, 3);
        if (what == 0) {
            return branches.open[branch] ? 1 : 0;
        }
        if (what == 1) {
            return branches.parent[branch];
        }
        return what == 2 ? branches.fork[branch] : writes.countOf(branch);
    }

    private void requireBranch(int branch) {
        if (branch < 0 || branch >= branches.count) {
            throw new IndexOutOfBoundsException("no such branch");
        }
    }

    private static void requireObject(int object) {
        if (!isObject(object)) {
            throw new IndexOutOfBoundsException("no such object");
        }
    }

    private static void requireField(int field) {
        if (field < 0 || field >= FIELDS) {
            throw new IndexOutOfBoundsException("no such field");
        }
    }

    private static void requireWhat(int what, int last) {
        if (what < 0 || what > last) {
            throw new IllegalArgumentException("what is none of these");
        }
    }

    private void requireReadable(int branch, int moment) {
        if (!branches.open[branch] || moment < firstReadable(branch) || moment > clock) {
            throw new IllegalArgumentException("the branch can not be read then");
        }
    }

    private void requireOpen(int branch) {
        if (!branches.open[branch]) {
            throw new IllegalStateException("the branch is not open");
        }
    }

    private void requireRoomFor(int more) {
        if (writes.count + more > MOST_WRITES) {
            throw new UnsupportedOperationException("there would be more than 120 writes");
        }
    }

    private int firstReadable(int branch) {
        return Math.max(branches.fork[branch], horizon);
    }

    private void look(View view, int branch, int moment) {
        branches.limitSight(branch, moment);
        writes.show(branches.limit, view);
    }

    private void append(int branch, int cell, int kind, int value) {
        clock++;
        writes.add(branch, clock, cell, kind, value);
    }

    /** Marks the writes that readings of any field on a branch give, when it can be read. */
    private void markGiven(int branch) {
        if (!branches.open[branch]) {
            return;
        }
        // The first readable moment is not before the fork: what comes into sight later is the
        // branch's own, and each such write is given at its own moment.
        int first = firstReadable(branch);
        look(here, branch, first);
        writes.markShown(here);
        writes.markOwnAfter(branch, first);
    }

    /** Whether a join from here to there is about this field. */
    private boolean isCarried(int cell) {
        return !here.holdsSame(before, cell) && !here.holdsSame(there, cell);
    }

    private int countCarried() {
        int carried = 0;
        for (int cell = 0; cell < CELLS; cell++) {
            if (isCarried(cell)) {
                carried++;
            }
        }
        return carried;
    }

    private int countConflicts() {
        int conflicts = 0;
        for (int cell = 0; cell < CELLS; cell++) {
            if (isCarried(cell) && !there.holdsSame(before, cell)) {
                conflicts++;
            }
        }
        return conflicts;
    }

    private void carryTo(int branch) {
        // The views keep what they have shown: a new write does not change what is still to carry.
        for (int cell = 0; cell < CELLS; cell++) {
            if (isCarried(cell)) {
                append(branch, cell, here.kind[cell], here.value[cell]);
            }
        }
    }

    private static boolean isObject(int number) {
        return number >= 0 && number < OBJECTS;
    }

    private static boolean isValue(int kind, int value) {
        return kind == NOTHING || kind == NUMBER || kind == REFERENCE && isObject(value);
    }

    private static int cellOf(int object, int field) {
        return FIELDS * object + field;
    }

    /** The branches by their numbers; a parent always has a smaller number than its children. */
    private static final class Branches {
        private final int[] parent;
        private final int[] fork;
        private final boolean[] open;
        /** Of each branch, the last moment of its writes in sight, or NONE. */
        private final int[] limit;
        private int count;

        Branches() {
            parent = new int[MOST_BRANCHES];
            fork = new int[MOST_BRANCHES];
            open = new boolean[MOST_BRANCHES];
            limit = new int[MOST_BRANCHES];
            parent[0] = NONE;
            open[0] = true;
            count = 1;
        }

        int add(int from, int moment) {
            int branch = count;
            parent[branch] = from;
            fork[branch] = moment;
            open[branch] = true;
            count++;
            return branch;
        }

        int openCount() {
            int opened = 0;
            for (int branch = 0; branch < count; branch++) {
                if (open[branch]) {
                    opened++;
                }
            }
            return opened;
        }

        /** The moment at which two lines meet. */
        int meet(int one, int two, int clock) {
            int moment = clock;
            int left = one;
            int right = two;
            for (int step = 0; step < 2 * MOST_BRANCHES && left != right; step++) {
                // The younger one is not on the line of the older one. A fork is never before the
                // fork of the parent: the earliest one passed is where a line left the shared one.
                int younger = Math.max(left, right);
                moment = Math.min(moment, fork[younger]);
                if (left == younger) {
                    left = parent[younger];
                } else {
                    right = parent[younger];
                }
            }
            return moment;
        }

        /** Sets the limits to what is in sight on a branch at a moment. */
        void limitSight(int branch, int moment) {
            Arrays.fill(limit, NONE);
            limit[branch] = moment;
            for (int child = branch; child > 0; child--) {
                if (limit[child] != NONE) {
                    limit[parent[child]] = Math.min(limit[child], fork[child]);
                }
            }
        }
    }

    /** The writes that are there, one a row, in the order of their moments. */
    private static final class Writes {
        private final int[] branch;
        private final int[] moment;
        private final int[] cell;
        private final int[] kind;
        private final int[] value;
        private final boolean[] marked;
        private int count;

        Writes() {
            branch = new int[MOST_WRITES];
            moment = new int[MOST_WRITES];
            cell = new int[MOST_WRITES];
            kind = new int[MOST_WRITES];
            value = new int[MOST_WRITES];
            marked = new boolean[MOST_WRITES];
            count = 0;
        }

        void add(int onBranch, int atMoment, int inCell, int ofKind, int newValue) {
            branch[count] = onBranch;
            moment[count] = atMoment;
            cell[count] = inCell;
            kind[count] = ofKind;
            value[count] = newValue;
            count++;
        }

        int countOf(int onBranch) {
            int own = 0;
            for (int row = 0; row < count; row++) {
                if (branch[row] == onBranch) {
                    own++;
                }
            }
            return own;
        }

        /** Lets a view show, of each field, the latest write within the limits. */
        void show(int[] limit, View view) {
            view.clear();
            for (int row = 0; row < count; row++) {
                if (moment[row] <= limit[branch[row]]) {
                    view.kind[cell[row]] = kind[row];
                    view.value[cell[row]] = value[row];
                    view.moment[cell[row]] = moment[row];
                }
            }
        }

        void unmarkAll() {
            for (int row = 0; row < count; row++) {
                marked[row] = false;
            }
        }

        void markShown(View view) {
            for (int row = 0; row < count; row++) {
                // No two writes have the same moment.
                if (moment[row] == view.moment[cell[row]]) {
                    marked[row] = true;
                }
            }
        }

        void markOwnAfter(int onBranch, int after) {
            for (int row = 0; row < count; row++) {
                if (branch[row] == onBranch && moment[row] > after) {
                    marked[row] = true;
                }
            }
        }

        /** The moment of the k-th marked write to a cell, or NONE. */
        int momentOfMarked(int ofCell, int k) {
            int seen = 0;
            for (int row = 0; row < count; row++) {
                if (marked[row] && cell[row] == ofCell) {
                    if (seen == k) {
                        return moment[row];
                    }
                    seen++;
                }
            }
            return NONE;
        }

        /** Lets go of all rows that are not marked; answers how many they were. */
        int dropUnmarked() {
            int kept = 0;
            for (int row = 0; row < count; row++) {
                if (marked[row]) {
                    moveRow(row, kept);
                    kept++;
                }
            }
            int dropped = count - kept;
            count = kept;
            return dropped;
        }

        private void moveRow(int from, int to) {
            branch[to] = branch[from];
            moment[to] = moment[from];
            cell[to] = cell[from];
            kind[to] = kind[from];
            value[to] = value[from];
        }
    }

    /** What all fields hold on one branch at one moment. */
    private static final class View {
        private final int[] kind;
        private final int[] value;
        private final int[] moment;

        View() {
            kind = new int[CELLS];
            value = new int[CELLS];
            moment = new int[CELLS];
        }

        void clear() {
            Arrays.fill(kind, NOTHING);
            Arrays.fill(value, 0);
            Arrays.fill(moment, NONE);
        }

        boolean holdsSame(View other, int cell) {
            return kind[cell] == other.kind[cell] && value[cell] == other.value[cell];
        }

        /** The objects to which one field of a set of objects refers. */
        int referredBy(int set, int field) {
            int found = 0;
            for (int object = 0; object < OBJECTS; object++) {
                if (isIn(object, set)) {
                    found |= target(cellOf(object, field));
                }
            }
            return found;
        }

        /** The objects one field of which refers into a set of objects. */
        int referringTo(int set, int field) {
            int found = 0;
            for (int object = 0; object < OBJECTS; object++) {
                if ((target(cellOf(object, field)) & set) != 0) {
                    found |= 1 << object;
                }
            }
            return found;
        }

        /** The objects to which any fields lead from a set, any number of times. */
        int allLedTo(int set) {
            int found = set;
            int old = 0;
            for (int round = 0; round < OBJECTS && found != old; round++) {
                old = found;
                for (int field = 0; field < FIELDS; field++) {
                    found |= referredBy(found, field);
                }
            }
            return found;
        }

        /** Those of a set whose field is a number that is less (<), the same (=) or more (>). */
        int withNumber(int set, int field, char sign, int bound) {
            int found = 0;
            for (int object = 0; object < OBJECTS; object++) {
                int cell = cellOf(object, field);
                if (isIn(object, set) && kind[cell] == NUMBER
                        && compares(value[cell], sign, bound)) {
                    found |= 1 << object;
                }
            }
            return found;
        }

        /** Those of a set whose field is nothing. */
        int withNothing(int set, int field) {
            int found = 0;
            for (int object = 0; object < OBJECTS; object++) {
                if (isIn(object, set) && kind[cellOf(object, field)] == NOTHING) {
                    found |= 1 << object;
                }
            }
            return found;
        }

        private int target(int cell) {
            return kind[cell] == REFERENCE ? 1 << value[cell] : 0;
        }

        private static boolean compares(int number, char sign, int bound) {
            if (sign == '<') {
                return number < bound;
            }
            return sign == '>' ? number > bound : number == bound;
        }

        private static boolean isIn(int object, int set) {
            return (set >> object & 1) == 1;
        }
    }

    /** The typed text, which is followed as a path. */
    private static final class Path {
        private static final int LOWEST = 33;
        private static final int HIGHEST = 126;
        private static final int ALL = (1 << OBJECTS) - 1;
        private static final int MOST_DIGITS = 4;
        private static final char END = 0;
        // Beyond what four digits can say.
        private static final int NO_NUMBER = 10000;

        private final char[] text;
        private int length;
        private int at;
        private int set;

        Path() {
            text = new char[LONGEST_TEXT];
            length = 0;
            at = 0;
            set = 0;
        }

        boolean canHold(int word) {
            for (int shift = 24; shift >= 0; shift -= 8) {
                int code = byteOf(word, shift);
                if (code != 0 && (code < LOWEST || code > HIGHEST)) {
                    return false;
                }
            }
            return true;
        }

        boolean hasRoomFor(int word) {
            int longer = length;
            for (int shift = 24; shift >= 0; shift -= 8) {
                if (byteOf(word, shift) != 0) {
                    longer++;
                }
            }
            return longer <= LONGEST_TEXT;
        }

        /** Puts a word, for which there is room, to the end of the text. */
        int add(int word) {
            for (int shift = 24; shift >= 0; shift -= 8) {
                int code = byteOf(word, shift);
                if (code != 0) {
                    text[length] = (char) code;
                    length++;
                }
            }
            return length;
        }

        void clear() {
            length = 0;
        }

        /** The set that the text gives in a view, or NONE when it is no path. */
        int follow(View view) {
            at = 0;
            if (!takeStart()) {
                return NONE;
            }
            for (int step = 0; step < LONGEST_TEXT && at < length; step++) {
                if (!takeStep(view)) {
                    return NONE;
                }
            }
            return set;
        }

        private boolean takeStart() {
            char start = next();
            if (start == '*') {
                set = ALL;
                return true;
            }
            if (!isObject(start - 'a')) {
                return false;
            }
            set = 1 << start - 'a';
            return true;
        }

        private boolean takeStep(View view) {
            char sign = next();
            int field = next() - '0';
            if (field < 0 || field >= FIELDS) {
                return false;
            }
            if (sign == '.' || sign == '^') {
                move(view, sign == '.', field);
                return true;
            }
            if (sign == '[') {
                return takeComparison(view, field);
            }
            if (sign == '?') {
                set = view.withNothing(set, field);
                return true;
            }
            return false;
        }

        private void move(View view, boolean forward, int field) {
            if (!takes('~')) {
                set = moved(view, forward, field);
                return;
            }
            int old = 0;
            for (int round = 0; round < OBJECTS && set != old; round++) {
                old = set;
                set |= moved(view, forward, field);
            }
        }

        private int moved(View view, boolean forward, int field) {
            return forward ? view.referredBy(set, field) : view.referringTo(set, field);
        }

        private boolean takeComparison(View view, int field) {
            char sign = next();
            if (sign != '<' && sign != '=' && sign != '>') {
                return false;
            }
            int bound = takeNumber();
            if (bound == NO_NUMBER || !takes(']')) {
                return false;
            }
            set = view.withNumber(set, field, sign, bound);
            return true;
        }

        private int takeNumber() {
            boolean negative = takes('-');
            int number = 0;
            int digits = 0;
            while (digits < MOST_DIGITS && at < length && isDigit(text[at])) {
                number = 10 * number + (text[at] - '0');
                digits++;
                at++;
            }
            if (digits == 0) {
                return NO_NUMBER;
            }
            return negative ? -number : number;
        }

        /** The next character of the text, taken; END behind the last one. */
        private char next() {
            if (at >= length) {
                return END;
            }
            char taken = text[at];
            at++;
            return taken;
        }

        /** Takes the next character if it is this one. */
        private boolean takes(char wanted) {
            if (at >= length || text[at] != wanted) {
                return false;
            }
            at++;
            return true;
        }

        private static boolean isDigit(char character) {
            return character >= '0' && character <= '9';
        }

        private static int byteOf(int word, int shift) {
            return word >>> shift & 255;
        }
    }
}
