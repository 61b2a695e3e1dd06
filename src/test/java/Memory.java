/** The document's face, so that the program and the plain model can be asked alike. */
interface Memory {
    int branch(int parent, int moment);

    void close(int branch);

    int write(int branch, int object, int field, int kind, int value);

    int read(int branch, int moment, int object, int field, int what);

    int history(int branch, int object, int field, int k);

    int differs(int one, int two, int k);

    int meeting(int one, int two);

    int join(int from, int to);

    int trim(int moment);

    int reach(int branch, int moment, int object);

    int type(int word);

    void erase();

    int find(int branch, int moment);

    int state(int what);

    int about(int branch, int what);
}
