import java.util.Random;
import java.util.concurrent.Callable;

/** Random runs of 512 calls, each call answered by ChoiceBoard as by SlowBoard. */
final class RandomRunsTest {
    private static final int RUNS = 400;
    private static final int CALLS = 512;

    private final Check check;
    private final Random random;
    private final int run;
    private int calls = 0;

    /** Factors of the draft are at most this; small ones lead to ties, large ones to the limits. */
    private final int spread;
    /** Most constraints of a run are met by this choice, else nearly every run would be hopeless. */
    private final int hidden;
    /** The higher, the later a run takes choices: that ends its given constraints. */
    private final int patience;

    private final ChoiceBoard board = new ChoiceBoard();
    private final SlowBoard slow = new SlowBoard();

    private RandomRunsTest(Check check, int run) {
        this.check = check;
        this.run = run;
        this.random = new Random(run);
        this.spread = new int[] {1, 3, 12, 99}[run % 4];
        this.hidden = random.nextInt(1024);
        this.patience = 1 + run / 4 % 4 * 4;
    }

    public static void main(String[] args) {
        Check check = new Check("RandomRunsTest");
        for (int run = 0; run < RUNS; run++) {
            RandomRunsTest test = new RandomRunsTest(check, run);
            while (test.calls < CALLS) {
                test.step();
            }
        }
        check.end();
    }

    private void both(String what, Callable<Object> fast, Callable<Object> model) {
        calls++;
        if (calls <= CALLS) {
            check.same("run " + run + ", call " + calls + ": " + what, answer(fast), answer(model));
        }
    }

    private static String answer(Callable<Object> call) {
        try {
            return String.valueOf(call.call());
        } catch (Exception e) {
            return e.getClass().getSimpleName();
        }
    }

    private boolean seldom() {
        return random.nextInt(30) == 0;
    }

    /** A number in the range, now and then one that is just outside. */
    private int within(int low, int high) {
        if (seldom() || high < low) {
            return random.nextBoolean() ? low - 1 : high + 1;
        }
        return low + random.nextInt(high - low + 1);
    }

    private int bound(int usual) {
        if (seldom()) {
            return new int[] {-10000, -9999, 9999, 10000}[random.nextInt(4)];
        }
        return usual;
    }

    private void step() {
        int kind = random.nextInt(100);
        if (kind < 25) {
            stepOfDraft(random.nextInt(12));
        } else if (kind < 65) {
            stepOfStack(random.nextInt(12));
        } else if (kind < 80) {
            stepOfProof(random.nextInt(8));
        } else {
            stepOfQuestion(random.nextInt(9));
        }
    }

    private void stepOfDraft(int kind) {
        if (kind == 0) {
            both("clear", () -> { board.clear(); return 0; }, slow::clear);
        } else if (kind == 1) {
            both("objective", () -> { board.objective(); return 0; }, slow::objective);
        } else if (kind == 2) {
            fillDraft();
            both("objective", () -> { board.objective(); return 0; }, slow::objective);
        } else if (kind < 6) {
            int b = bound(fillDraft() - random.nextInt(spread + 1) + (seldom() ? spread : 0));
            int type = seldom() ? within(0, 1) : 0;
            both("require " + type + " " + b, () -> board.require(type, b), () -> slow.require(type, b));
        } else if (kind < 9) {
            int b = bound(fillDraft() + random.nextInt(spread + 1) - (seldom() ? spread : 0));
            int type = seldom() ? within(0, 1) : 1;
            both("require " + type + " " + b, () -> board.require(type, b), () -> slow.require(type, b));
        } else {
            int b = bound(fillDraft() - random.nextInt(6 * spread + 1));
            both("contradict " + b, () -> board.contradict(b), () -> slow.contradict(b));
        }
    }

    /** Some factors, and their sum for the hidden choice (if the draft was empty before). */
    private int fillDraft() {
        int sum = 0;
        for (int terms = random.nextInt(5); terms >= 0; terms--) {
            int v = within(0, 9);
            int a = within(-spread, spread);
            both("term " + v + " " + a, () -> { board.term(v, a); return 0; }, () -> slow.term(v, a));
            sum += (hidden >> Math.max(v, 0) & 1) * a;
        }
        return sum;
    }

    private void stepOfStack(int kind) {
        if (kind < 4) {
            int k = within(0, board.constraints() - 1);
            both("load " + k, () -> { board.load(k); return 0; }, () -> slow.load(k));
        } else if (kind == 4) {
            int v = within(0, 9);
            boolean truth = random.nextBoolean();
            both("axiom " + v + " " + truth, () -> { board.axiom(v, truth); return 0; }, () -> slow.axiom(v, truth));
        } else if (kind < 8) {
            both("add", () -> { board.add(); return 0; }, slow::add);
        } else if (kind == 8) {
            int m = random.nextInt(4) == 0 ? within(1, 1000) : within(1, 5);
            both("times " + m, () -> { board.times(m); return 0; }, () -> slow.times(m));
        } else if (kind == 9) {
            int m = seldom() ? within(1, 1000000) : within(1, 5);
            both("divide " + m, () -> { board.divide(m); return 0; }, () -> slow.divide(m));
        } else if (kind == 10) {
            both("saturate", () -> { board.saturate(); return 0; }, slow::saturate);
        } else {
            int v = within(0, 9);
            both("weaken " + v, () -> { board.weaken(v); return 0; }, () -> slow.weaken(v));
        }
        seeTop();
    }

    private void seeTop() {
        for (int times = 0; times < 3; times++) {
            int v = within(-2, 9);
            both("top " + v, () -> board.top(v), () -> slow.top(v));
        }
    }

    private void stepOfProof(int kind) {
        if (kind < 2) {
            both("learn", board::learn, slow::learn);
        } else if (kind < 4) {
            both("drop", () -> { board.drop(); return 0; }, slow::drop);
        } else if (kind < 6 && random.nextInt(patience) == 0) {
            int choice = new int[] {hidden, solution(), within(0, 1023)}[random.nextInt(3)];
            both("found " + choice, () -> board.found(choice) ? 1 : 0, () -> slow.found(choice));
        } else {
            both("solve", board::solve, slow::solve);
            both("least", board::least, slow::least);
        }
    }

    /** The choice of the latest solve, or 0. */
    private int solution() {
        int choice = 0;
        for (int v = 0; v < 10 && !Check.solution(board).equals("none"); v++) {
            choice |= board.value(v) << v;
        }
        return choice;
    }

    private void stepOfQuestion(int kind) {
        if (kind == 0) {
            both("verdict", board::verdict, slow::verdict);
        } else if (kind == 1) {
            both("best", board::best, slow::best);
        } else if (kind == 2) {
            both("constraints", board::constraints, slow::constraints);
        } else if (kind < 5) {
            int v = within(0, 9);
            both("value " + v, () -> board.value(v), () -> slow.value(v));
        } else if (kind == 5) {
            int k = within(0, board.constraints() - 1);
            int v = within(-2, 9);
            both("constraint " + k + " " + v, () -> board.constraint(k, v), () -> slow.constraint(k, v));
        } else {
            int known = random.nextBoolean() ? within(0, 1023) : random.nextInt(1024) & random.nextInt(1024);
            int values = random.nextBoolean() ? within(0, 1023) : hidden;
            both("close " + known + " " + values, () -> board.close(known, values), () -> slow.close(known, values));
        }
    }
}
