/**
 * The program behind the face. It counts the calls: the document promises nothing of an object
 * after its 512th, so a test that goes further would test what is free.
 */
final class Real implements Face {
    private static final int LIMIT = 512;

    private final ChoiceBoard board = new ChoiceBoard();
    private int calls = 0;

    private ChoiceBoard called() {
        calls++;
        if (calls > LIMIT) {
            throw new AssertionError("a test uses one object for more than " + LIMIT + " calls");
        }
        return board;
    }

    int callsLeft() {
        return LIMIT - calls;
    }

    @Override
    public void term(int v, int a) {
        called().term(v, a);
    }

    @Override
    public void clear() {
        called().clear();
    }

    @Override
    public int require(int kind, int b) {
        return called().require(kind, b);
    }

    @Override
    public void objective() {
        called().objective();
    }

    @Override
    public int constraints() {
        return called().constraints();
    }

    @Override
    public int constraint(int k, int v) {
        return called().constraint(k, v);
    }

    @Override
    public int close(int known, int values) {
        return called().close(known, values);
    }

    @Override
    public void load(int k) {
        called().load(k);
    }

    @Override
    public void axiom(int v, boolean truth) {
        called().axiom(v, truth);
    }

    @Override
    public void add() {
        called().add();
    }

    @Override
    public void times(int m) {
        called().times(m);
    }

    @Override
    public void divide(int m) {
        called().divide(m);
    }

    @Override
    public void saturate() {
        called().saturate();
    }

    @Override
    public void weaken(int v) {
        called().weaken(v);
    }

    @Override
    public void drop() {
        called().drop();
    }

    @Override
    public int top(int v) {
        return called().top(v);
    }

    @Override
    public int learn() {
        return called().learn();
    }

    @Override
    public int contradict(int b) {
        return called().contradict(b);
    }

    @Override
    public boolean found(int choice) {
        return called().found(choice);
    }

    @Override
    public int verdict() {
        return called().verdict();
    }

    @Override
    public int best() {
        return called().best();
    }

    @Override
    public int solve() {
        return called().solve();
    }

    @Override
    public int least() {
        return called().least();
    }

    @Override
    public int value(int v) {
        return called().value(v);
    }
}
