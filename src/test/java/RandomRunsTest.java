import java.util.Random;
import java.util.function.Consumer;
import java.util.function.Function;

/** Random runs of 512 calls, each call answered by the program as by SlowBoard. */
final class RandomRunsTest {
    private static final int RUNS = 600;

    private final Check check;
    private final Random random;
    private final int run;
    private int calls = 0;

    /** Factors of the draft are at most this; small ones lead to ties, large ones to the limits. */
    private final int spread;
    /** Most constraints of a run are met by this choice, else nearly every run would be hopeless. */
    private final int hidden;
    /** The higher, the later a run takes choices: that ends its given constraints. */
    private final int patience;

    private final Real board = new Real();
    private final Face slow = new SlowBoard();

    private RandomRunsTest(Check check, int run) {
        this.check = check;
        this.run = run;
        this.random = new Random(run);
        this.spread = new int[] {1, 3, 12, 99}[run % 4];
        this.hidden = random.nextInt(1024);
        this.patience = 1 + run / 4 % 4 * 4;
    }

    public static void main(String[] args) {
        Check check = new Check("RandomRunsTest");
        for (int run = 0; run < RUNS; run++) {
            RandomRunsTest test = new RandomRunsTest(check, run);
            while (test.board.callsLeft() > 0) {
                test.step();
            }
        }
        check.end();
    }

    private void ask(String what, Function<Face, Object> call) {
        calls++;
        if (board.callsLeft() > 0) {
            check.same("run " + run + ", call " + calls + ": " + what,
                    Check.outcome(() -> call.apply(board)), Check.outcome(() -> call.apply(slow)));
        }
    }

    private void tell(String what, Consumer<Face> call) {
        ask(what, face -> {
            call.accept(face);
            return "nothing";
        });
    }

    private boolean seldom() {
        return random.nextInt(30) == 0;
    }

    /** A number in the range, now and then one that is just outside. */
    private int within(int low, int high) {
        if (seldom() || high < low) {
            return random.nextBoolean() ? low - 1 : high + 1;
        }
        return low + random.nextInt(high - low + 1);
    }

    private int bound(int usual) {
        if (seldom()) {
            return new int[] {-10000, -9999, 9999, 10000}[random.nextInt(4)];
        }
        return usual;
    }

    private void step() {
        int kind = random.nextInt(100);
        if (kind < 25) {
            stepOfDraft(random.nextInt(12));
        } else if (kind < 65) {
            stepOfStack(random.nextInt(12));
        } else if (kind < 80) {
            stepOfProof(random.nextInt(8));
        } else {
            stepOfQuestion(random.nextInt(9));
        }
    }

    private void stepOfDraft(int kind) {
        if (kind == 0) {
            tell("clear", Face::clear);
        } else if (kind == 1) {
            tell("objective", Face::objective);
        } else if (kind == 2) {
            fillDraft();
            tell("objective", Face::objective);
        } else if (kind < 6) {
            int b = bound(fillDraft() - random.nextInt(spread + 1) + (seldom() ? spread : 0));
            require(seldom() ? within(0, 1) : 0, b);
        } else if (kind < 9) {
            int b = bound(fillDraft() + random.nextInt(spread + 1) - (seldom() ? spread : 0));
            require(seldom() ? within(0, 1) : 1, b);
        } else {
            int b = bound(fillDraft() - random.nextInt(6 * spread + 1));
            ask("contradict " + b, face -> face.contradict(b));
        }
    }

    private void require(int kind, int b) {
        ask("require " + kind + " " + b, face -> face.require(kind, b));
    }

    /** Some factors, and their sum for the hidden choice (if the draft was empty before). */
    private int fillDraft() {
        int sum = 0;
        for (int terms = random.nextInt(5); terms >= 0; terms--) {
            int v = within(0, 9);
            int a = within(-spread, spread);
            tell("term " + v + " " + a, face -> face.term(v, a));
            sum += (hidden >> Math.max(v, 0) & 1) * a;
        }
        return sum;
    }

    private void stepOfStack(int kind) {
        if (kind < 4) {
            int k = within(0, slow.constraints() - 1);
            tell("load " + k, face -> face.load(k));
        } else if (kind == 4) {
            int v = within(0, 9);
            boolean truth = random.nextBoolean();
            tell("axiom " + v + " " + truth, face -> face.axiom(v, truth));
        } else if (kind < 8) {
            tell("add", Face::add);
        } else if (kind == 8) {
            int m = random.nextInt(4) == 0 ? within(1, 1000) : within(1, 5);
            tell("times " + m, face -> face.times(m));
        } else if (kind == 9) {
            int m = seldom() ? within(1, 1000000) : within(1, 5);
            tell("divide " + m, face -> face.divide(m));
        } else if (kind == 10) {
            tell("saturate", Face::saturate);
        } else {
            int v = within(0, 9);
            tell("weaken " + v, face -> face.weaken(v));
        }
        seeTop();
    }

    private void seeTop() {
        for (int times = 0; times < 3; times++) {
            int v = within(-2, 9);
            ask("top " + v, face -> face.top(v));
        }
    }

    private void stepOfProof(int kind) {
        if (kind < 2) {
            ask("learn", Face::learn);
        } else if (kind < 4) {
            tell("drop", Face::drop);
        } else if (kind < 6 && random.nextInt(patience) == 0) {
            int choice = new int[] {hidden, solution(), within(0, 1023)}[random.nextInt(3)];
            ask("found " + choice, face -> face.found(choice));
        } else {
            ask("solve", Face::solve);
            ask("least", Face::least);
        }
    }

    /** The choice of the latest solve, or 0. */
    private int solution() {
        int choice = 0;
        for (int v = 0; v < 10 && !Look.solution(slow).equals("none"); v++) {
            choice |= slow.value(v) << v;
        }
        return choice;
    }

    private void stepOfQuestion(int kind) {
        if (kind == 0) {
            ask("verdict", Face::verdict);
        } else if (kind == 1) {
            ask("best", Face::best);
        } else if (kind == 2) {
            ask("constraints", Face::constraints);
        } else if (kind < 5) {
            int v = within(0, 9);
            ask("value " + v, face -> face.value(v));
        } else if (kind == 5) {
            int k = within(0, slow.constraints() - 1);
            int v = within(-2, 9);
            ask("constraint " + k + " " + v, face -> face.constraint(k, v));
        } else {
            int known = random.nextBoolean() ? within(0, 1023) : random.nextInt(1024) & random.nextInt(1024);
            int values = random.nextBoolean() ? within(0, 1023) : hidden;
            ask("close " + known + " " + values, face -> face.close(known, values));
        }
    }
}
