/** A BranchedPast for at most 512 calls: what it answers to later ones is free. */
final class Past implements Memory {
    static final int MOST_CALLS = 512;

    private final BranchedPast past = new BranchedPast();
    private int calls = 0;

    int callsLeft() {
        return MOST_CALLS - calls;
    }

    private BranchedPast called() {
        if (calls == MOST_CALLS) {
            throw new AssertionError("a test uses an object for more than 512 calls");
        }
        calls++;
        return past;
    }

    @Override
    public int branch(int parent, int moment) {
        return called().branch(parent, moment);
    }

    @Override
    public void close(int branch) {
        called().close(branch);
    }

    @Override
    public int write(int branch, int object, int field, int kind, int value) {
        return called().write(branch, object, field, kind, value);
    }

    @Override
    public int read(int branch, int moment, int object, int field, int what) {
        return called().read(branch, moment, object, field, what);
    }

    @Override
    public int history(int branch, int object, int field, int k) {
        return called().history(branch, object, field, k);
    }

    @Override
    public int differs(int one, int two, int k) {
        return called().differs(one, two, k);
    }

    @Override
    public int meeting(int one, int two) {
        return called().meeting(one, two);
    }

    @Override
    public int join(int from, int to) {
        return called().join(from, to);
    }

    @Override
    public int trim(int moment) {
        return called().trim(moment);
    }

    @Override
    public int reach(int branch, int moment, int object) {
        return called().reach(branch, moment, object);
    }

    @Override
    public int type(int word) {
        return called().type(word);
    }

    @Override
    public void erase() {
        called().erase();
    }

    @Override
    public int find(int branch, int moment) {
        return called().find(branch, moment);
    }

    @Override
    public int state(int what) {
        return called().state(what);
    }

    @Override
    public int about(int branch, int what) {
        return called().about(branch, what);
    }
}
