/** The document's face, so that the same calls can be made on the program and on its slow model. */
interface Face {
    void term(int v, int a);

    void clear();

    int require(int kind, int b);

    void objective();

    int constraints();

    int constraint(int k, int v);

    int close(int known, int values);

    void load(int k);

    void axiom(int v, boolean truth);

    void add();

    void times(int m);

    void divide(int m);

    void saturate();

    void weaken(int v);

    void drop();

    int top(int v);

    int learn();

    int contradict(int b);

    boolean found(int choice);

    int verdict();

    int best();

    int solve();

    int least();

    int value(int v);
}
