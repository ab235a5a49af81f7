import java.util.ArrayDeque;
import java.util.ArrayList;
import java.util.Arrays;
import java.util.Deque;
import java.util.List;
import java.util.NoSuchElementException;

/**
 * The document once more, told in another way, for random runs to be held against: a constraint is
 * two rows of sizes, what counts if true and what counts if false, and all questions about choices
 * go through all 1024 of them or through one variable at a time.
 */
final class SlowBoard implements Face {
    private record Rule(long[] ifTrue, long[] ifFalse, long degree, boolean given) {
        long weight(int v) {
            return ifTrue[v] - ifFalse[v];
        }

        long slack(Boolean[] partial) {
            long sum = -degree;
            for (int v = 0; v < 10; v++) {
                sum += partial[v] == null ? ifTrue[v] + ifFalse[v] : partial[v] ? ifTrue[v] : ifFalse[v];
            }
            return sum;
        }

        boolean meets(int choice) {
            long counted = 0;
            for (int v = 0; v < 10; v++) {
                counted += (choice >> v & 1) == 1 ? ifTrue[v] : ifFalse[v];
            }
            return counted >= degree;
        }

        boolean isVoid() {
            for (int choice = 0; choice < 1024; choice++) {
                if (meets(choice)) {
                    return false;
                }
            }
            return true;
        }
    }

    private long[] draft = new long[10];
    private long[] goal = new long[10];
    private final List<Rule> store = new ArrayList<>();
    private final Deque<Rule> stack = new ArrayDeque<>();
    private Long best = null;
    private Long least = null;
    private int leastChoice;

    private static Rule rule(long[] weights, long degree, boolean given) {
        long[] ifTrue = new long[10];
        long[] ifFalse = new long[10];
        for (int v = 0; v < 10; v++) {
            ifTrue[v] = weights[v] > 0 ? weights[v] : 0;
            ifFalse[v] = weights[v] < 0 ? -weights[v] : 0;
        }
        return new Rule(ifTrue, ifFalse, degree < 0 ? 0 : degree, given);
    }

    private static long[] weights(Rule rule) {
        long[] weights = new long[10];
        for (int v = 0; v < 10; v++) {
            weights[v] = rule.weight(v);
        }
        return weights;
    }

    private static Rule atLeast(long[] factors, long b, boolean given) {
        long degree = b;
        for (long factor : factors) {
            degree += factor < 0 ? -factor : 0;
        }
        return rule(factors, degree, given);
    }

    private static long[] turned(long[] factors) {
        return Arrays.stream(factors).map(f -> -f).toArray();
    }

    private static Boolean[] partial(int known, int values) {
        Boolean[] partial = new Boolean[10];
        for (int v = 0; v < 10; v++) {
            partial[v] = (known >> v & 1) == 0 ? null : Boolean.valueOf((values >> v & 1) == 1);
        }
        return partial;
    }

    private static void argument(boolean fine) {
        if (!fine) {
            throw new IllegalArgumentException();
        }
    }

    private static void state(boolean fine) {
        if (!fine) {
            throw new IllegalStateException();
        }
    }

    private static void element(boolean fine) {
        if (!fine) {
            throw new NoSuchElementException();
        }
    }

    private static boolean in(long n, long low, long high) {
        return low <= n && n <= high;
    }

    private int keep(Rule rule) {
        store.add(rule);
        return store.size() - 1;
    }

    private long[] takeDraft() {
        long[] old = draft;
        draft = new long[10];
        return old;
    }

    @Override
    public void term(int v, int a) {
        argument(in(v, 0, 9) && in(a, -99, 99));
        draft[v] = a;
    }

    @Override
    public void clear() {
        takeDraft();
    }

    @Override
    public int require(int kind, int b) {
        argument(in(kind, 0, 1) && in(b, -9999, 9999));
        state(store.size() < 30 && best == null);
        return keep(kind == 0 ? atLeast(takeDraft(), b, true) : atLeast(turned(takeDraft()), -b, true));
    }

    @Override
    public void objective() {
        state(best == null);
        goal = takeDraft();
    }

    @Override
    public int constraints() {
        return store.size();
    }

    @Override
    public int constraint(int k, int v) {
        element(in(k, 0, store.size() - 1));
        argument(in(v, -2, 9));
        Rule rule = store.get(k);
        return v == -2 ? (rule.given ? 1 : 0) : (int) (v == -1 ? rule.degree : rule.weight(v));
    }

    /** One variable at a time, the last constraint and the last variable first. */
    private static boolean closes(List<Rule> rules, Boolean[] partial) {
        for (int steps = 0; steps < 20; steps++) {
            for (Rule rule : rules) {
                if (rule.slack(partial) < 0) {
                    return false;
                }
            }
            forceOne(rules, partial);
        }
        return true;
    }

    private static void forceOne(List<Rule> rules, Boolean[] partial) {
        for (int k = rules.size() - 1; k >= 0; k--) {
            Rule rule = rules.get(k);
            long slack = rule.slack(partial);
            for (int v = 9; v >= 0; v--) {
                if (partial[v] == null && Math.abs(rule.weight(v)) > slack) {
                    partial[v] = rule.weight(v) > 0;
                    return;
                }
            }
        }
    }

    @Override
    public int close(int known, int values) {
        argument(in(known, 0, 1023) && in(values, 0, 1023));
        Boolean[] partial = partial(known, values);
        if (!closes(store, partial)) {
            return -1;
        }
        int answer = 0;
        for (int v = 0; v < 10; v++) {
            if (partial[v] != null) {
                answer += (1024 + (partial[v] ? 1 : 0)) << v;
            }
        }
        return answer;
    }

    @Override
    public void load(int k) {
        element(in(k, 0, store.size() - 1));
        state(stack.size() < 6);
        stack.push(store.get(k));
    }

    @Override
    public void axiom(int v, boolean truth) {
        element(in(v, 0, 9));
        state(stack.size() < 6);
        long[] weights = new long[10];
        weights[v] = truth ? 1 : -1;
        stack.push(rule(weights, 0, false));
    }

    private static Rule small(Rule rule) {
        boolean fine = rule.degree <= 1000000;
        for (int v = 0; v < 10; v++) {
            fine &= rule.ifTrue[v] <= 1000000 && rule.ifFalse[v] <= 1000000;
        }
        if (!fine) {
            throw new ArithmeticException();
        }
        return rule;
    }

    @Override
    public void add() {
        state(stack.size() >= 2);
        Rule[] rules = stack.toArray(new Rule[0]);
        long[] weights = new long[10];
        long degree = rules[0].degree + rules[1].degree;
        for (int v = 0; v < 10; v++) {
            long ifTrue = rules[0].ifTrue[v] + rules[1].ifTrue[v];
            long ifFalse = rules[0].ifFalse[v] + rules[1].ifFalse[v];
            weights[v] = ifTrue - ifFalse;
            degree -= Math.min(ifTrue, ifFalse);
        }
        Rule sum = small(rule(weights, degree, false));
        stack.pop();
        stack.pop();
        stack.push(sum);
    }

    private void replaceTop(Rule rule) {
        stack.pop();
        stack.push(rule);
    }

    @Override
    public void times(int m) {
        state(!stack.isEmpty());
        argument(in(m, 1, 1000));
        long[] weights = Arrays.stream(weights(stack.peek())).map(w -> w * m).toArray();
        replaceTop(small(rule(weights, stack.peek().degree * m, false)));
    }

    private static long up(long n, long m) {
        return n / m + (n % m > 0 ? 1 : 0);
    }

    @Override
    public void divide(int m) {
        state(!stack.isEmpty());
        argument(in(m, 1, 1000000));
        long[] weights = Arrays.stream(weights(stack.peek())).map(w -> w < 0 ? -up(-w, m) : up(w, m)).toArray();
        replaceTop(rule(weights, up(stack.peek().degree, m), false));
    }

    @Override
    public void saturate() {
        state(!stack.isEmpty());
        long d = stack.peek().degree;
        long[] weights = Arrays.stream(weights(stack.peek())).map(w -> Math.max(-d, Math.min(d, w))).toArray();
        replaceTop(rule(weights, d, false));
    }

    @Override
    public void weaken(int v) {
        state(!stack.isEmpty());
        element(in(v, 0, 9));
        long[] weights = weights(stack.peek());
        long degree = stack.peek().degree - Math.abs(weights[v]);
        weights[v] = 0;
        replaceTop(rule(weights, degree, false));
    }

    @Override
    public void drop() {
        state(!stack.isEmpty());
        stack.pop();
    }

    @Override
    public int top(int v) {
        argument(in(v, -2, 9));
        if (v == -2) {
            return stack.size();
        }
        state(!stack.isEmpty());
        return (int) (v == -1 ? stack.peek().degree : stack.peek().weight(v));
    }

    @Override
    public int learn() {
        state(!stack.isEmpty() && store.size() < 30);
        Rule rule = stack.pop();
        return keep(rule(weights(rule), rule.degree, false));
    }

    @Override
    public int contradict(int b) {
        argument(in(b, -9999, 9999));
        state(store.size() < 30);
        Rule wanted = atLeast(draft, b, false);
        long sizes = Arrays.stream(draft).map(Math::abs).sum();
        List<Rule> rules = new ArrayList<>(store);
        rules.add(rule(turned(draft), sizes + 1 - wanted.degree, false));
        if (closes(rules, new Boolean[10])) {
            return -1;
        }
        takeDraft();
        return keep(wanted);
    }

    private long valueOf(int choice) {
        long sum = 0;
        for (int v = 0; v < 10; v++) {
            sum += (choice >> v & 1) == 1 ? goal[v] : 0;
        }
        return sum;
    }

    private boolean aims() {
        return Arrays.stream(goal).anyMatch(f -> f != 0);
    }

    @Override
    public boolean found(int choice) {
        argument(in(choice, 0, 1023));
        state(store.size() < 30);
        if (!store.stream().allMatch(rule -> rule.meets(choice))) {
            return false;
        }
        best = valueOf(choice);
        if (aims()) {
            keep(atLeast(turned(goal), 1 - best, false));
        }
        return true;
    }

    @Override
    public int verdict() {
        if (store.stream().anyMatch(Rule::isVoid)) {
            return best == null ? 1 : 2;
        }
        return best != null && !aims() ? 3 : 0;
    }

    @Override
    public int best() {
        element(best != null);
        return best.intValue();
    }

    /** Goes through the choices with variable 0 as the highest digit, so that the first one stays. */
    @Override
    public int solve() {
        least = null;
        for (int rank = 0; rank < 1024; rank++) {
            int choice = Integer.reverse(rank) >>> 22;
            boolean better = least == null || valueOf(choice) < least;
            if (better && store.stream().allMatch(rule -> !rule.given || rule.meets(choice))) {
                least = valueOf(choice);
                leastChoice = choice;
            }
        }
        return least == null ? 0 : 1;
    }

    @Override
    public int least() {
        element(least != null);
        return least.intValue();
    }

    @Override
    public int value(int v) {
        element(least != null);
        argument(in(v, 0, 9));
        return leastChoice >> v & 1;
    }
}
