import java.util.Arrays;
import java.util.NoSuchElementException;

/**
 * Linear constraints over ten truth values, an objective to be made least, a solver that finds the
 * best choice, and a checker for proofs that it is the best.
 *
 * <p>All rows are made in the constructor and used again, so that no call makes an object (but for
 * the exception that it throws). Sets of variables and whole choices are ints with bit v for
 * variable v.
 */
public final class ChoiceBoard {

    private static final int VARIABLES = 10;
    private static final int CHOICES = 1 << VARIABLES;
    private static final int ALL_VARIABLES = CHOICES - 1;
    private static final int STORE_LIMIT = 30;
    private static final int STACK_LIMIT = 6;
    private static final int FACTOR_LIMIT = 99;
    private static final int BOUND_LIMIT = 9999;
    private static final int MULTIPLIER_LIMIT = 1000;
    private static final int SIZE_LIMIT = 1000000;

    /** Where a variable is asked for, these ask for something else of the constraint. */
    private static final int ASKS_DEGREE = -1;
    private static final int ASKS_EXTRA = -2;

    private static final int AT_LEAST = 0;
    private static final int AT_MOST = 1;

    /** What closing comes to in place of a partial choice. */
    private static final int CONFLICT = -1;
    private static final int NOT_SHOWN = -1;

    private static final int VERDICT_NOTHING = 0;
    private static final int VERDICT_NO_CHOICE = 1;
    private static final int VERDICT_BEST_IS_LEAST = 2;
    private static final int VERDICT_NO_OBJECTIVE = 3;

    private final int[] draft = new int[VARIABLES];
    private final int[] objectiveFactors = new int[VARIABLES];

    private final Constraint[] store = new Constraint[STORE_LIMIT];
    private int stored = 0;

    private final Constraint[] stack = new Constraint[STACK_LIMIT];
    private int stacked = 0;

    /** Results that may be too large are made here first: a call that throws changes nothing. */
    private final Constraint scratch = new Constraint();

    private boolean taken = false;
    private int bestValue = 0;

    private boolean solved = false;
    private int leastValue = 0;
    private int leastChoice = 0;

    public ChoiceBoard() {
        for (int k = 0; k < STORE_LIMIT; k++) {
            store[k] = new Constraint();
        }
        for (int k = 0; k < STACK_LIMIT; k++) {
            stack[k] = new Constraint();
        }
    }

    // ---- the draft, the store and the objective ----

    public void term(int v, int a) throws IllegalArgumentException {
        if (!isVariable(v) || !isWithin(a, -FACTOR_LIMIT, FACTOR_LIMIT)) {
            throw new IllegalArgumentException();
        }
        draft[v] = a;
    }

    public void clear() {
        Arrays.fill(draft, 0);
    }

    public int require(int kind, int b) throws IllegalArgumentException, IllegalStateException {
        if (!isWithin(kind, AT_LEAST, AT_MOST) || !isWithin(b, -BOUND_LIMIT, BOUND_LIMIT)) {
            throw new IllegalArgumentException();
        }
        if (isStoreFull() || taken) {
            throw new IllegalStateException();
        }
        if (kind == AT_LEAST) {
            store[stored].becomeAtLeast(draft, b);
        } else {
            store[stored].becomeAtMost(draft, b);
        }
        clear();
        return keepNext(true);
    }

    public void objective() throws IllegalStateException {
        if (taken) {
            throw new IllegalStateException();
        }
        System.arraycopy(draft, 0, objectiveFactors, 0, VARIABLES);
        clear();
    }

    public int constraints() {
        return stored;
    }

    public int constraint(int k, int v) throws NoSuchElementException, IllegalArgumentException {
        if (!isStored(k)) {
            throw new NoSuchElementException();
        }
        if (!isQuestion(v)) {
            throw new IllegalArgumentException();
        }
        if (v == ASKS_EXTRA) {
            return store[k].given ? 1 : 0;
        }
        return store[k].weightOrDegree(v);
    }

    public int close(int known, int values) throws IllegalArgumentException {
        if (!isChoice(known) || !isChoice(values)) {
            throw new IllegalArgumentException();
        }
        return closed(known * CHOICES + (values & known), stored);
    }

    // ---- the stack ----

    public void load(int k) throws NoSuchElementException, IllegalStateException {
        if (!isStored(k)) {
            throw new NoSuchElementException();
        }
        refuseFullStack();
        stack[stacked].become(store[k]);
        stacked++;
    }

    public void axiom(int v, boolean truth) throws NoSuchElementException, IllegalStateException {
        if (!isVariable(v)) {
            throw new NoSuchElementException();
        }
        refuseFullStack();
        stack[stacked].becomeAxiom(v, truth);
        stacked++;
    }

    public void add() throws IllegalStateException, ArithmeticException {
        if (stacked < 2) {
            throw new IllegalStateException();
        }
        scratch.becomeSum(stack[stacked - 2], stack[stacked - 1]);
        refuseTooLargeScratch();
        stack[stacked - 2].become(scratch);
        stacked--;
    }

    public void times(int m)
            throws IllegalStateException, IllegalArgumentException, ArithmeticException {
        refuseEmptyStack();
        if (!isWithin(m, 1, MULTIPLIER_LIMIT)) {
            throw new IllegalArgumentException();
        }
        scratch.becomeMultiple(stack[stacked - 1], m);
        refuseTooLargeScratch();
        stack[stacked - 1].become(scratch);
    }

    public void divide(int m) throws IllegalStateException, IllegalArgumentException {
        refuseEmptyStack();
        if (!isWithin(m, 1, SIZE_LIMIT)) {
            throw new IllegalArgumentException();
        }
        stack[stacked - 1].divideRoundingUp(m);
    }

    public void saturate() throws IllegalStateException {
        refuseEmptyStack();
        stack[stacked - 1].limitSizesToDegree();
    }

    public void weaken(int v) throws IllegalStateException, NoSuchElementException {
        refuseEmptyStack();
        if (!isVariable(v)) {
            throw new NoSuchElementException();
        }
        stack[stacked - 1].giveUp(v);
    }

    public void drop() throws IllegalStateException {
        refuseEmptyStack();
        stacked--;
    }

    public int top(int v) throws IllegalArgumentException, IllegalStateException {
        if (!isQuestion(v)) {
            throw new IllegalArgumentException();
        }
        if (v == ASKS_EXTRA) {
            return stacked;
        }
        refuseEmptyStack();
        return stack[stacked - 1].weightOrDegree(v);
    }

    // ---- proofs ----

    public int learn() throws IllegalStateException {
        refuseEmptyStack();
        refuseFullStore();
        stacked--;
        store[stored].become(stack[stacked]);
        return keepNext(false);
    }

    public int contradict(int b) throws IllegalArgumentException, IllegalStateException {
        if (!isWithin(b, -BOUND_LIMIT, BOUND_LIMIT)) {
            throw new IllegalArgumentException();
        }
        refuseFullStore();
        // The contrary stands behind the store only while closing: that row is not counted yet.
        store[stored].becomeAtLeast(draft, b);
        store[stored].turnToContrary();
        if (closed(0, stored + 1) != CONFLICT) {
            return NOT_SHOWN;
        }
        store[stored].becomeAtLeast(draft, b);
        clear();
        return keepNext(false);
    }

    public boolean found(int choice) throws IllegalArgumentException, IllegalStateException {
        if (!isChoice(choice)) {
            throw new IllegalArgumentException();
        }
        refuseFullStore();
        if (!meetsStore(choice, false)) {
            return false;
        }
        taken = true;
        bestValue = objectiveValue(choice);
        if (hasObjective()) {
            store[stored].becomeAtMost(objectiveFactors, bestValue - 1);
            keepNext(false);
        }
        return true;
    }

    public int verdict() {
        if (hasVoid()) {
            return taken ? VERDICT_BEST_IS_LEAST : VERDICT_NO_CHOICE;
        }
        return taken && !hasObjective() ? VERDICT_NO_OBJECTIVE : VERDICT_NOTHING;
    }

    public int best() throws NoSuchElementException {
        if (!taken) {
            throw new NoSuchElementException();
        }
        return bestValue;
    }

    // ---- the solver ----

    public int solve() {
        solved = false;
        for (int choice = 0; choice < CHOICES; choice++) {
            int value = objectiveValue(choice);
            // The value is looked at first, since meeting the store is the dearer question.
            if (isPreferred(choice, value) && meetsStore(choice, true)) {
                solved = true;
                leastValue = value;
                leastChoice = choice;
            }
        }
        return solved ? 1 : 0;
    }

    public int least() throws NoSuchElementException {
        refuseUnsolved();
        return leastValue;
    }

    public int value(int v) throws NoSuchElementException, IllegalArgumentException {
        refuseUnsolved();
        if (!isVariable(v)) {
            throw new IllegalArgumentException();
        }
        return bit(leastChoice, v);
    }

    // ---- what calls refuse ----

    private void refuseFullStore() {
        if (isStoreFull()) {
            throw new IllegalStateException();
        }
    }

    private void refuseFullStack() {
        if (stacked >= STACK_LIMIT) {
            throw new IllegalStateException();
        }
    }

    private void refuseEmptyStack() {
        if (stacked < 1) {
            throw new IllegalStateException();
        }
    }

    private void refuseTooLargeScratch() {
        if (scratch.isTooLarge()) {
            throw new ArithmeticException();
        }
    }

    private void refuseUnsolved() {
        if (!solved) {
            throw new NoSuchElementException();
        }
    }

    private static boolean isWithin(int number, int low, int high) {
        return number >= low && number <= high;
    }

    private static boolean isVariable(int v) {
        return isWithin(v, 0, VARIABLES - 1);
    }

    private static boolean isQuestion(int v) {
        return isWithin(v, ASKS_EXTRA, VARIABLES - 1);
    }

    private static boolean isChoice(int choice) {
        return isWithin(choice, 0, ALL_VARIABLES);
    }

    private boolean isStored(int k) {
        return isWithin(k, 0, stored - 1);
    }

    private boolean isStoreFull() {
        return stored >= STORE_LIMIT;
    }

    // ---- questions about the store and the objective ----

    /** Counts the row behind the store as part of it, and tells its number. */
    private int keepNext(boolean given) {
        store[stored].given = given;
        stored++;
        return stored - 1;
    }

    private boolean meetsStore(int choice, boolean onlyGiven) {
        for (int k = 0; k < stored; k++) {
            boolean asked = store[k].given || !onlyGiven;
            if (asked && !store[k].isMetBy(choice)) {
                return false;
            }
        }
        return true;
    }

    private boolean hasVoid() {
        for (int k = 0; k < stored; k++) {
            if (store[k].isVoid()) {
                return true;
            }
        }
        return false;
    }

    /**
     * Closes a partial choice (its true variables, and 1024 times those that are not open) over the
     * first rows of the store. Each round but the last settles a variable, so one round more than
     * there are variables is always enough.
     */
    private int closed(int partial, int rows) {
        int now = partial;
        for (int round = 0; round <= VARIABLES; round++) {
            int before = now;
            for (int k = 0; k < rows; k++) {
                now = store[k].forcedFrom(now);
                if (now == CONFLICT) {
                    return CONFLICT;
                }
            }
            if (now == before) {
                break;
            }
        }
        return now;
    }

    private boolean hasObjective() {
        for (int v = 0; v < VARIABLES; v++) {
            if (objectiveFactors[v] != 0) {
                return true;
            }
        }
        return false;
    }

    private int objectiveValue(int choice) {
        int sum = 0;
        for (int v = 0; v < VARIABLES; v++) {
            sum += objectiveFactors[v] * bit(choice, v);
        }
        return sum;
    }

    private boolean isPreferred(int choice, int value) {
        if (!solved || value < leastValue) {
            return true;
        }
        return value == leastValue && comesBefore(choice, leastChoice);
    }

    /** The lowest variable in which two choices differ decides: false comes before true. */
    private static boolean comesBefore(int choice, int other) {
        int differing = choice ^ other;
        int lowest = differing & -differing;
        return (other & lowest) != 0;
    }

    private static int bit(int set, int v) {
        return (set >> v) & 1;
    }

    /** One constraint: a row of the store or of the stack, overwritten when the row is used anew. */
    private static final class Constraint {
        private final int[] weights = new int[VARIABLES];
        private int degree = 0;
        private boolean given = false;

        void become(Constraint other) {
            System.arraycopy(other.weights, 0, weights, 0, VARIABLES);
            degree = other.degree;
        }

        void becomeAtLeast(int[] factors, int bound) {
            normalize(factors, 1, bound);
        }

        void becomeAtMost(int[] factors, int bound) {
            normalize(factors, -1, -bound);
        }

        private void normalize(int[] factors, int sign, int bound) {
            int sum = bound;
            for (int v = 0; v < VARIABLES; v++) {
                weights[v] = sign * factors[v];
                if (weights[v] < 0) {
                    sum += size(v);
                }
            }
            degree = Math.max(sum, 0);
        }

        void becomeAxiom(int v, boolean truth) {
            Arrays.fill(weights, 0);
            weights[v] = truth ? 1 : -1;
            degree = 0;
        }

        void becomeSum(Constraint one, Constraint other) {
            int sum = one.degree + other.degree;
            for (int v = 0; v < VARIABLES; v++) {
                weights[v] = one.weights[v] + other.weights[v];
                if (one.isOpposed(other, v)) {
                    sum -= Math.min(one.size(v), other.size(v));
                }
            }
            degree = Math.max(sum, 0);
        }

        private boolean isOpposed(Constraint other, int v) {
            return weights[v] > 0 && other.weights[v] < 0 || weights[v] < 0 && other.weights[v] > 0;
        }

        void becomeMultiple(Constraint other, int m) {
            for (int v = 0; v < VARIABLES; v++) {
                weights[v] = m * other.weights[v];
            }
            degree = m * other.degree;
        }

        void divideRoundingUp(int m) {
            for (int v = 0; v < VARIABLES; v++) {
                resize(v, quotientRoundedUp(size(v), m));
            }
            degree = quotientRoundedUp(degree, m);
        }

        private static int quotientRoundedUp(int number, int m) {
            return (number + m - 1) / m;
        }

        void limitSizesToDegree() {
            for (int v = 0; v < VARIABLES; v++) {
                resize(v, Math.min(size(v), degree));
            }
        }

        void giveUp(int v) {
            degree = Math.max(degree - size(v), 0);
            weights[v] = 0;
        }

        void turnToContrary() {
            degree = Math.max(sizeOfAll() + 1 - degree, 0);
            for (int v = 0; v < VARIABLES; v++) {
                weights[v] = -weights[v];
            }
        }

        private int size(int v) {
            return Math.abs(weights[v]);
        }

        private void resize(int v, int size) {
            weights[v] = weights[v] < 0 ? -size : size;
        }

        private int sizeOfAll() {
            int sum = 0;
            for (int v = 0; v < VARIABLES; v++) {
                sum += size(v);
            }
            return sum;
        }

        int weightOrDegree(int v) {
            return v == ASKS_DEGREE ? degree : weights[v];
        }

        boolean isTooLarge() {
            for (int v = 0; v < VARIABLES; v++) {
                if (size(v) > SIZE_LIMIT) {
                    return true;
                }
            }
            return degree > SIZE_LIMIT;
        }

        boolean isVoid() {
            return sizeOfAll() < degree;
        }

        boolean isMetBy(int choice) {
            return slack(ALL_VARIABLES, choice) >= 0;
        }

        private int slack(int known, int truths) {
            int sum = -degree;
            for (int v = 0; v < VARIABLES; v++) {
                if (bit(known, v) == 0 || bit(truths, v) == countedTruth(v)) {
                    sum += size(v);
                }
            }
            return sum;
        }

        private int countedTruth(int v) {
            return weights[v] > 0 ? 1 : 0;
        }

        /** The partial choice with what this constraint forces in it, or CONFLICT. */
        int forcedFrom(int partial) {
            int known = partial / CHOICES;
            int slack = slack(known, partial & ALL_VARIABLES);
            if (slack < 0) {
                return CONFLICT;
            }
            int forced = partial;
            for (int v = 0; v < VARIABLES; v++) {
                if (bit(known, v) == 0 && size(v) > slack) {
                    forced += (CHOICES + countedTruth(v)) << v;
                }
            }
            return forced;
        }
    }
}
