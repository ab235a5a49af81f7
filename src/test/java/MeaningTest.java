import java.util.ArrayList;
import java.util.Arrays;
import java.util.BitSet;
import java.util.List;
import java.util.Random;
import java.util.function.IntPredicate;
import java.util.function.IntUnaryOperator;

/**
 * What the answers mean, looked at without the document's rules for weights and degrees: a
 * constraint is here the set of choices that meet it. What is derived must be met by all choices
 * that meet what it comes of, and what is shown must be true. A rule that was read wrongly in the
 * program and in SlowBoard alike is seen here.
 */
final class MeaningTest {
    private static final int RUNS = 300;
    private static final int DEAREST_STEP = 30;

    private final Check check;
    private final Random random;
    private final String run;
    private final Real board = new Real();

    private final List<BitSet> store = new ArrayList<>();
    private final List<BitSet> stack = new ArrayList<>();
    private final BitSet meetGiven = choices(choice -> true);
    private final BitSet meetStore = choices(choice -> true);
    private final int[] aim = new int[10];
    private int taken = -1;

    private MeaningTest(Check check, int run) {
        this.check = check;
        this.random = new Random(run);
        this.run = "run " + run + ": ";
    }

    public static void main(String[] args) {
        Check check = new Check("MeaningTest");
        for (int run = 0; run < RUNS; run++) {
            new MeaningTest(check, run).all();
        }
        check.end();
    }

    private void all() {
        for (int k = random.nextInt(5); k >= 0; k--) {
            require();
        }
        if (random.nextInt(4) > 0) {
            objective();
        }
        solve();
        boolean mayTake = random.nextBoolean();
        while (board.callsLeft() > DEAREST_STEP) {
            int kind = random.nextInt(20);
            if (kind < 12) {
                stepOfStack(kind);
            } else if (kind == 12) {
                contradict();
            } else if (kind == 13 && mayTake) {
                found();
            } else if (kind == 14) {
                solve();
            } else {
                close();
            }
        }
        verdict();
    }

    private void same(String what, Object got, Object want) {
        check.same(run + what, got, want);
    }

    // ---- sets of choices ----

    private static BitSet choices(IntPredicate fine) {
        BitSet set = new BitSet(1024);
        for (int choice = 0; choice < 1024; choice++) {
            set.set(choice, fine.test(choice));
        }
        return set;
    }

    private static int sum(int[] factors, int choice) {
        int sum = 0;
        for (int v = 0; v < 10; v++) {
            sum += (choice >> v & 1) * factors[v];
        }
        return sum;
    }

    private static boolean isPart(BitSet part, BitSet of) {
        BitSet rest = (BitSet) part.clone();
        rest.andNot(of);
        return rest.isEmpty();
    }

    private static BitSet both(BitSet one, BitSet other) {
        BitSet both = (BitSet) one.clone();
        both.and(other);
        return both;
    }

    /** The choices that meet a constraint, by the first sentence on it: what is counted is at least d. */
    private static BitSet meeting(IntUnaryOperator weightOrDegree) {
        int[] weights = new int[10];
        for (int v = 0; v < 10; v++) {
            weights[v] = weightOrDegree.applyAsInt(v);
        }
        int degree = weightOrDegree.applyAsInt(-1);
        return choices(choice -> counted(weights, choice) >= degree);
    }

    private static int counted(int[] weights, int choice) {
        int counted = 0;
        for (int v = 0; v < 10; v++) {
            boolean truth = (choice >> v & 1) == 1;
            counted += truth ? Math.max(weights[v], 0) : Math.max(-weights[v], 0);
        }
        return counted;
    }

    private BitSet stored(int k) {
        return meeting(v -> board.constraint(k, v));
    }

    private BitSet top() {
        return meeting(board::top);
    }

    // ---- the store ----

    private int[] drafted() {
        int[] factors = new int[10];
        for (int terms = random.nextInt(4); terms >= 0; terms--) {
            int v = random.nextInt(10);
            factors[v] = random.nextInt(15) - 7;
            board.term(v, factors[v]);
        }
        return factors;
    }

    private void kept(int k, BitSet meaning) {
        same("number", k, store.size());
        same("meaning of constraint " + k, stored(k), meaning);
        store.add(meaning);
        meetStore.and(meaning);
    }

    private void require() {
        int[] factors = drafted();
        int kind = random.nextInt(2);
        int b = random.nextInt(13) - 6;
        int k = board.require(kind, b);
        BitSet meaning = choices(choice -> kind == 0 ? sum(factors, choice) >= b : sum(factors, choice) <= b);
        kept(k, meaning);
        meetGiven.and(meaning);
    }

    private void objective() {
        System.arraycopy(drafted(), 0, aim, 0, 10);
        board.objective();
    }

    private void contradict() {
        if (store.size() == 30) {
            return;
        }
        board.clear();
        int[] factors = drafted();
        int b = random.nextInt(13) - 9;
        BitSet meaning = choices(choice -> sum(factors, choice) >= b);
        int k = board.contradict(b);
        if (k >= 0) {
            same("what is shown by contradiction follows", isPart(meetStore, meaning), true);
            kept(k, meaning);
        } else {
            same("what is always so is shown by contradiction", meaning.cardinality() < 1024, true);
        }
    }

    private void found() {
        if (store.size() == 30) {
            return;
        }
        int choice = random.nextInt(4) == 0 ? random.nextInt(1024) : Math.max(meetStore.previousSetBit(1023), 0);
        same("found " + choice, board.found(choice), meetStore.get(choice));
        if (!meetStore.get(choice)) {
            return;
        }
        taken = choice;
        same("best", board.best(), sum(aim, taken));
        same("a bound comes if there is an aim", board.constraints() - store.size(), aims() ? 1 : 0);
        if (aims()) {
            kept(store.size(), choices(other -> sum(aim, other) < sum(aim, taken)));
        }
    }

    /** Closing loses no choice, and of a whole choice it tells whether it meets the store. */
    private void close() {
        int known = random.nextInt(3) == 0 ? 1023 : random.nextInt(1024) & random.nextInt(1024);
        int values = random.nextInt(1024);
        BitSet left = both(meetStore, choices(choice -> ((choice ^ values) & known) == 0));
        int closed = board.close(known, values);
        if (closed == -1) {
            same("conflict", left.isEmpty(), true);
            return;
        }
        int settled = closed / 1024;
        int truths = closed % 1024;
        same("what was known stays", (settled & known) == known && ((truths ^ values) & known) == 0, true);
        same("what is open is not true", truths & ~settled, 0);
        same("what is forced follows", isPart(left, choices(choice -> (choice & settled) == truths)), true);
        if (settled == 1023) {
            same("a whole choice without conflict", meetStore.get(truths), true);
        }
    }

    // ---- the stack ----

    private void stepOfStack(int kind) {
        int height = stack.size();
        if (kind < 4 && height < 6) {
            push(kind);
        } else if (kind < 6 && height >= 2) {
            add();
        } else if (kind < 11 && height >= 1) {
            change(kind);
        } else if (height >= 1 && store.size() < 30) {
            kept(board.learn(), stack.remove(height - 1));
        }
        same("height", board.top(-2), stack.size());
    }

    private void push(int kind) {
        if (kind == 0) {
            board.axiom(random.nextInt(10), random.nextBoolean());
            same("an axiom is met by all", top().cardinality(), 1024);
            stack.add(top());
        } else {
            int k = random.nextInt(store.size());
            board.load(k);
            same("loaded " + k, top(), store.get(k));
            stack.add(store.get(k));
        }
    }

    private void add() {
        BitSet one = stack.get(stack.size() - 1);
        BitSet other = stack.get(stack.size() - 2);
        if (Check.outcome(board::add).equals("ArithmeticException")) {
            same("not added", top(), one);
            return;
        }
        BitSet sum = top();
        same("a sum follows of both", isPart(both(one, other), sum), true);
        stack.remove(stack.size() - 1);
        stack.set(stack.size() - 1, sum);
    }

    private void change(int kind) {
        BitSet before = stack.get(stack.size() - 1);
        if (kind < 8) {
            int m = 1 + random.nextInt(4);
            Check.outcome(() -> board.times(m));
            same("times " + m + " means the same", top(), before);
        } else if (kind == 8) {
            int m = 1 + random.nextInt(4);
            board.divide(m);
            same("divided by " + m + " follows", isPart(before, top()), true);
        } else if (kind == 9) {
            board.saturate();
            same("saturated means the same", top(), before);
        } else {
            int v = random.nextInt(10);
            board.weaken(v);
            same("weakened: variable " + v + " may be either", top(),
                    choices(choice -> before.get(choice) || before.get(choice ^ 1 << v)));
        }
        stack.set(stack.size() - 1, top());
    }

    // ---- what is shown ----

    private boolean aims() {
        return Arrays.stream(aim).anyMatch(factor -> factor != 0);
    }

    private int least() {
        return meetGiven.stream().map(choice -> sum(aim, choice)).min().getAsInt();
    }

    private void solve() {
        same("solve", board.solve(), meetGiven.isEmpty() ? 0 : 1);
        if (meetGiven.isEmpty()) {
            same("no least", Check.outcome(board::least), "NoSuchElementException");
            return;
        }
        same("least", board.least(), least());
        BitSet left = both(meetGiven, choices(choice -> sum(aim, choice) == least()));
        for (int v = 0; v < 10; v++) {
            int bit = 1 << v;
            BitSet withFalse = both(left, choices(choice -> (choice & bit) == 0));
            same("value " + v, board.value(v), withFalse.isEmpty() ? 1 : 0);
            left = withFalse.isEmpty() ? left : withFalse;
        }
    }

    private void verdict() {
        boolean shown = store.stream().anyMatch(BitSet::isEmpty);
        int verdict = board.verdict();
        same("verdict", verdict, shown ? (taken < 0 ? 1 : 2) : taken >= 0 && !aims() ? 3 : 0);
        if (verdict == 1) {
            same("no choice meets all", meetGiven.isEmpty(), true);
        } else if (verdict > 1) {
            same("the best is least", board.best(), least());
        }
    }
}
