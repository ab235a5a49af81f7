import java.util.List;
import java.util.NoSuchElementException;
import java.util.function.Consumer;

/** The boundary cases of promises 9 to 17, sentence by sentence. */
final class StackEdgesTest {
    private static final Check check = new Check("StackEdgesTest");
    private static final int LOWEST = Integer.MIN_VALUE;
    private static final int HIGHEST = Integer.MAX_VALUE;
    private static final Class<IllegalArgumentException> ARGUMENT = IllegalArgumentException.class;
    private static final Class<IllegalStateException> STATE = IllegalStateException.class;
    private static final Class<NoSuchElementException> ELEMENT = NoSuchElementException.class;
    private static final Class<ArithmeticException> ARITHMETIC = ArithmeticException.class;

    private static final Situation NONE = Situation.open(4, 0);
    private static final Situation ONE = Situation.open(4, 1);
    private static final Situation TWO = Situation.open(4, 2);
    private static final Situation FIVE = Situation.open(4, 5);
    private static final Situation SIX = Situation.open(4, 6);
    private static final Situation ALL_FULL = Situation.open(30, 6);
    private static final Situation LARGE = new Situation(true, false, 4, 3, true);

    /** Constraints 0 and 1 of every situation, as they stand on the stack there. */
    private static final String FIRST = "3 x0 -2 x1 1 x9 >= 2";
    private static final String SECOND_TWICE = "-2 x4 -2 x5 >= 2";

    public static void main(String[] args) {
        loadNumbers();
        loadWhenFull();
        loadLooksAtTheNumberFirst();
        axiomVariables();
        axiomWhenFull();
        axiomLooksAtTheVariableFirst();
        addNeedsTwo();
        addTakesTheTopmost();
        addTooLarge();
        timesNeedsOne();
        timesFactors();
        timesTooLarge();
        divideNeedsOne();
        divideDivisors();
        saturateNeedsOne();
        weakenNeedsOne();
        weakenVariables();
        dropNeedsOne();
        topQuestions();
        topNeedsOne();
        theRestOfTheStackIsLeft();
        check.end();
    }

    private static Face after(Consumer<Face> before, Consumer<Face> call) {
        return Check.after(before.andThen(call));
    }

    private static void loadNumbers() {
        check.sentence("Throws NoSuchElementException when there is none (load)");
        check.same("the first", Look.top(after(NONE, b -> b.load(0))), FIRST);
        check.same("the last", Look.top(after(NONE, b -> b.load(3))), "-3 x3 >= 0");
        check.same("the last of 30", Look.top(after(Situation.open(30, 5), b -> b.load(29))), "-29 x9 >= 0");
        for (int k : new int[] {-1, 4, 29, 30, LOWEST, HIGHEST}) {
            check.refuses(FIVE, "load " + k, b -> b.load(k), ELEMENT);
        }
        check.refuses(Situation.open(30, 5), "load 30 of 30", b -> b.load(30), ELEMENT);
        check.refuses(b -> { }, "load 0 of none", b -> b.load(0), ELEMENT);
    }

    private static void loadWhenFull() {
        check.sentence("then IllegalStateException when the stack is full (load)");
        check.same("the sixth", after(FIVE, b -> b.load(0)).top(-2), 6);
        check.refuses(SIX, "the seventh", b -> b.load(0), STATE);
        check.refuses(ALL_FULL, "the seventh, with a full store", b -> b.load(29), STATE);
    }

    private static void loadLooksAtTheNumberFirst() {
        check.sentence("Throws NoSuchElementException ..., then IllegalStateException (load)");
        for (int k : new int[] {-1, 4, HIGHEST}) {
            check.refuses(SIX, "load " + k, b -> b.load(k), ELEMENT);
        }
        check.refuses(ALL_FULL, "load 30", b -> b.load(30), ELEMENT);
    }

    private static void axiomVariables() {
        check.sentence("Throws NoSuchElementException when there is no such variable (axiom)");
        check.same("0 true", Look.top(after(ONE, b -> b.axiom(0, true))), "1 x0 >= 0");
        check.same("0 false", Look.top(after(ONE, b -> b.axiom(0, false))), "-1 x0 >= 0");
        check.same("9 true", Look.top(after(ONE, b -> b.axiom(9, true))), "1 x9 >= 0");
        check.same("9 false", Look.top(after(ONE, b -> b.axiom(9, false))), "-1 x9 >= 0");
        check.same("nothing is left of what stood in its place", Look.top(after(ONE, b -> {
            b.drop();
            b.axiom(4, false);
        })), "-1 x4 >= 0");
        for (int v : new int[] {-1, 10, LOWEST, HIGHEST}) {
            check.refuses(FIVE, "true " + v, b -> b.axiom(v, true), ELEMENT);
            check.refuses(FIVE, "false " + v, b -> b.axiom(v, false), ELEMENT);
        }
    }

    private static void axiomWhenFull() {
        check.sentence("then IllegalStateException when the stack is full (axiom)");
        check.same("the sixth", after(FIVE, b -> b.axiom(9, true)).top(-2), 6);
        check.refuses(SIX, "the seventh, true", b -> b.axiom(0, true), STATE);
        check.refuses(SIX, "the seventh, false", b -> b.axiom(9, false), STATE);
    }

    private static void axiomLooksAtTheVariableFirst() {
        check.sentence("Throws NoSuchElementException ..., then IllegalStateException (axiom)");
        for (int v : new int[] {-1, 10, HIGHEST}) {
            check.refuses(SIX, "axiom " + v, b -> b.axiom(v, true), ELEMENT);
        }
    }

    private static void addNeedsTwo() {
        check.sentence("Throws IllegalStateException when there are not two");
        check.refuses(NONE, "none", Face::add, STATE);
        check.refuses(ONE, "one", Face::add, STATE);
        check.same("two", Check.outcome(() -> Check.after(TWO).add()), "nothing");
        check.refuses(TWO.andThen(Face::add), "one is left", Face::add, STATE);
    }

    private static void addTakesTheTopmost() {
        check.sentence("The two topmost become their sum");
        check.same("two", Look.STACK.at(after(TWO, Face::add)), "3 x0 -2 x1 -2 x4 -2 x5 1 x9 >= 4; 1 then 0");
        check.same("of six, the fifth and the sixth", Look.STACK.at(after(SIX, Face::add)),
                "15 x0 -10 x1 -6 x4 -6 x5 5 x9 >= 16; -4 x4 -4 x5 >= 4; -1 x7 >= 0; "
                + SECOND_TWICE + "; " + FIRST + "; 5 then 0");
        check.same("the store is left", Look.STORE.at(after(SIX, Face::add)), Look.STORE.at(Check.after(SIX)));
    }

    private static void addTooLarge() {
        check.sentence("A call that throws changes nothing (add)");
        check.refuses(LARGE, "two millions", Face::add, ARITHMETIC);
        check.refuses(new Situation(true, true, 30, 6, true), "with all full", Face::add, ARITHMETIC);
        Face board = Check.after(LARGE);
        Check.outcome(board::add);
        board.divide(1000);
        board.divide(1000);
        check.same("the topmost can be used on", Look.top(board), "-1 x4 -1 x5 >= 1");
        check.same("and added, where it is still too large",
                Check.outcome(board::add), "ArithmeticException");
    }

    private static void timesNeedsOne() {
        check.sentence("Throws IllegalStateException when there is none, then IllegalArgumentException (times)");
        for (int m : new int[] {LOWEST, -1, 0, 1, 2, 1000, 1001, HIGHEST}) {
            check.refuses(NONE, "times " + m, b -> b.times(m), STATE);
        }
    }

    private static void timesFactors() {
        check.sentence("Throws IllegalArgumentException when m is not 1 .. 1000");
        check.same("1", Look.top(after(ONE, b -> b.times(1))), FIRST);
        check.same("1000", Look.top(after(ONE, b -> b.times(1000))), "3000 x0 -2000 x1 1000 x9 >= 2000");
        for (int m : new int[] {0, -1, 1001, LOWEST, HIGHEST}) {
            check.refuses(ONE, "times " + m, b -> b.times(m), ARGUMENT);
            check.refuses(LARGE, "times " + m + " of a large one", b -> b.times(m), ARGUMENT);
        }
    }

    private static void timesTooLarge() {
        check.sentence("A call that throws changes nothing (times)");
        check.refuses(LARGE, "twice", b -> b.times(2), ARITHMETIC);
        check.refuses(LARGE, "a thousand times", b -> b.times(1000), ARITHMETIC);
        check.refuses(new Situation(true, true, 30, 6, true), "with all full", b -> b.times(2), ARITHMETIC);
        Consumer<Face> lastAlone = b -> {
            Check.draft(b, 0, 1, 9, 11).require(0, 1);
            b.load(0);
            b.times(1000);
        };
        check.refuses(lastAlone, "variable 9 alone is too large", b -> b.times(100), ARITHMETIC);
        check.same("once less", Look.top(after(lastAlone, b -> b.times(90))), "90000 x0 990000 x9 >= 90000");
    }

    private static void divideNeedsOne() {
        check.sentence("Throws IllegalStateException when there is none, then IllegalArgumentException (divide)");
        for (int m : new int[] {LOWEST, -1, 0, 1, 1000000, 1000001, HIGHEST}) {
            check.refuses(NONE, "divide " + m, b -> b.divide(m), STATE);
        }
    }

    private static void divideDivisors() {
        check.sentence("Throws IllegalArgumentException when m is not 1 .. 1000000");
        check.same("1", Look.top(after(ONE, b -> b.divide(1))), FIRST);
        check.same("1000000", Look.top(after(ONE, b -> b.divide(1000000))), "1 x0 -1 x1 1 x9 >= 1");
        check.same("1000000 of a large one", Look.top(after(LARGE, b -> b.divide(1000000))), "-1 x4 -1 x5 >= 1");
        check.same("999999 of a large one", Look.top(after(LARGE, b -> b.divide(999999))), "-2 x4 -2 x5 >= 2");
        check.same("1 of a large one", Look.top(after(LARGE, b -> b.divide(1))), "-1000000 x4 -1000000 x5 >= 1000000");
        for (int m : new int[] {0, -1, 1000001, LOWEST, HIGHEST}) {
            check.refuses(ONE, "divide " + m, b -> b.divide(m), ARGUMENT);
            check.refuses(LARGE, "divide " + m + " of a large one", b -> b.divide(m), ARGUMENT);
        }
    }

    private static void saturateNeedsOne() {
        check.sentence("Throws IllegalStateException when there is none (saturate)");
        check.refuses(NONE, "none", Face::saturate, STATE);
        check.same("one", Look.top(after(ONE, Face::saturate)), "2 x0 -2 x1 1 x9 >= 2");
        check.refuses(ONE.andThen(Face::drop), "none is left", Face::saturate, STATE);
    }

    private static void weakenNeedsOne() {
        check.sentence("Throws IllegalStateException when there is none, then NoSuchElementException (weaken)");
        for (int v : new int[] {LOWEST, -1, 0, 9, 10, HIGHEST}) {
            check.refuses(NONE, "weaken " + v, b -> b.weaken(v), STATE);
        }
    }

    private static void weakenVariables() {
        check.sentence("Throws NoSuchElementException when there is no such variable (weaken)");
        check.same("0", Look.top(after(ONE, b -> b.weaken(0))), "-2 x1 1 x9 >= 0");
        check.same("9", Look.top(after(ONE, b -> b.weaken(9))), "3 x0 -2 x1 >= 1");
        check.leaves(ONE, "one that does not occur", b -> Check.outcome(() -> b.weaken(5)), "nothing");
        for (int v : new int[] {-1, -2, 10, LOWEST, HIGHEST}) {
            check.refuses(ONE, "weaken " + v, b -> b.weaken(v), ELEMENT);
        }
    }

    private static void dropNeedsOne() {
        check.sentence("Throws IllegalStateException when there is none (drop)");
        check.refuses(NONE, "none", Face::drop, STATE);
        check.same("one", after(ONE, Face::drop).top(-2), 0);
        check.refuses(ONE.andThen(Face::drop), "none is left", Face::drop, STATE);
        Face six = Check.after(SIX);
        for (int left = 5; left >= 0; left--) {
            six.drop();
            check.same("of six", six.top(-2), left);
        }
        check.yields("the seventh of six", six::drop, STATE);
    }

    private static void topQuestions() {
        check.sentence("Throws IllegalArgumentException for another v (top)");
        int[] due = {1, 2, 3, -2, 0, 0, 0, 0, 0, 0, 0, 1};
        for (int v = -2; v < 10; v++) {
            int asked = v;
            check.leaves(ONE, "v " + v, b -> b.top(asked), due[v + 2]);
        }
        for (int v : new int[] {-3, 10, LOWEST, HIGHEST}) {
            check.refuses(ONE, "v " + v, b -> b.top(v), ARGUMENT);
            check.refuses(SIX, "v " + v + " of six", b -> b.top(v), ARGUMENT);
        }
    }

    private static void topNeedsOne() {
        check.sentence("Throws IllegalArgumentException for another v, then IllegalStateException when there is none (top)");
        for (int v : new int[] {-3, 10, LOWEST, HIGHEST}) {
            check.refuses(NONE, "v " + v, b -> b.top(v), ARGUMENT);
        }
        for (int v = -1; v < 10; v++) {
            int asked = v;
            check.refuses(NONE, "v " + v, b -> b.top(asked), STATE);
        }
        check.sentence("for v = -2 how many constraints are on the stack (also when there is none)");
        check.leaves(b -> { }, "none, on a new board", b -> b.top(-2), 0);
        check.leaves(NONE, "none", b -> b.top(-2), 0);
        check.leaves(SIX, "six", b -> b.top(-2), 6);
        check.same("six, and a seventh refused", after(SIX, b -> Check.outcome(() -> b.load(0))).top(-2), 6);
    }

    private static void theRestOfTheStackIsLeft() {
        check.sentence("The topmost becomes ... (and nothing else)");
        String rest = Look.STACK.at(after(SIX, Face::drop));
        List<Consumer<Face>> calls =
                List.of(b -> b.times(3), b -> b.divide(3), Face::saturate, b -> b.weaken(4));
        for (Consumer<Face> call : calls) {
            check.same("the other five", Look.STACK.at(after(SIX.andThen(call), Face::drop)), rest);
        }
    }
}
