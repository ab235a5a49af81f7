import java.util.NoSuchElementException;
import java.util.function.Consumer;

/** The boundary cases of promises 23 to 25, sentence by sentence. */
final class SolverEdgesTest {
    private static final Check check = new Check("SolverEdgesTest");
    private static final int LOWEST = Integer.MIN_VALUE;
    private static final int HIGHEST = Integer.MAX_VALUE;
    private static final Class<IllegalArgumentException> ARGUMENT = IllegalArgumentException.class;
    private static final Class<NoSuchElementException> ELEMENT = NoSuchElementException.class;

    private static final Situation BUSY = Situation.BUSY;

    /** A solve that answered 1, and then one that answered 0. */
    private static final Consumer<Face> IN_VAIN = BUSY.andThen(board -> {
        board.clear();
        board.require(0, 1);
        board.solve();
        Check.draft(board, 2, 7);
    });

    public static void main(String[] args) {
        solveAllChoices();
        solveFewChoices();
        solveGivenOnesAlone();
        solvePutsNothingIn();
        leastWithoutASolve();
        leastAfterInVain();
        leastAsItWasThen();
        leastAtItsEnds();
        valueWithoutASolve();
        valueVariables();
        valueLooksForASolveFirst();
        valueFalseFirst();
        check.end();
    }

    private static void solveAllChoices() {
        check.sentence("1 when there are choices that meet all given constraints");
        check.same("no constraints", new Real().solve(), 1);
        check.same("thirty that all meet", Check.withFullStore().solve(), 1);
        Consumer<Face> tight = board -> Check.draft(board, 0, 1, 1, -1).require(0, 1);
        check.same("slack 0", Check.after(tight).solve(), 1);
    }

    /** Each variable has to be as its bit in the choice, by one constraint each. */
    private static Consumer<Face> only(int choice) {
        return board -> {
            for (int v = 0; v < 10; v++) {
                boolean truth = (choice >> v & 1) == 1;
                Check.draft(board, v, truth ? 1 : -1).require(0, truth ? 1 : 0);
            }
        };
    }

    private static void solveFewChoices() {
        check.sentence("1 when there are choices that meet all given constraints, else 0");
        for (int choice : new int[] {0, 1, 512, 682, 1022, 1023}) {
            Face board = Check.after(only(choice));
            check.same("one choice alone", board.solve(), 1);
            StringBuilder due = new StringBuilder("0 ");
            for (int v = 0; v < 10; v++) {
                due.append(choice >> v & 1);
            }
            check.same("it is " + choice, Look.solution(board), due.toString());
            Check.draft(board, 9, (choice >> 9) == 1 ? -1 : 1).require(0, (choice >> 9) == 1 ? 0 : 1);
            check.same("and then none", board.solve(), 0);
        }
        check.same("a void one", Check.after(board -> board.require(0, 1)).solve(), 0);
        Face late = Check.after(Situation.open(29, 0));
        late.clear();
        late.require(0, 1);
        check.same("a void one in the last place", late.solve(), 0);
    }

    private static void solveGivenOnesAlone() {
        check.sentence("all given constraints");
        Face board = new Real();
        Check.draft(board, 0, 1).objective();
        board.found(0);
        check.same("a void bound is derived", board.verdict(), 2);
        check.same("and does not count", board.solve(), 1);
        check.same("nor for the solution", Look.solution(board), "0 0000000000");
        Face hopeless = new Real();
        Check.draft(hopeless, 0, 1).require(0, 1);
        Check.draft(hopeless, 0, 1).require(1, 0);
        check.same("two given ones", hopeless.solve(), 0);
    }

    private static void solvePutsNothingIn() {
        check.sentence("It puts nothing into the store");
        for (Situation situation : new Situation[] {BUSY, Situation.open(30, 6), Situation.taken(30, 6)}) {
            check.leaves(situation, "solved again in " + situation, Face::solve, 1);
        }
        check.leaves(IN_VAIN, "in vain again", Face::solve, 0);
    }

    private static void leastWithoutASolve() {
        check.sentence("Throws NoSuchElementException when there was none (least)");
        check.refuses(board -> { }, "new", Face::least, ELEMENT);
        Consumer<Face> unsolved = board -> {
            Check.draft(board, 0, 1).objective();
            board.found(0);
        };
        check.refuses(unsolved, "a choice was taken, but nothing solved", Face::least, ELEMENT);
        check.leaves(Face::solve, "solved", Face::least, 0);
    }

    private static void leastAfterInVain() {
        check.sentence("Throws NoSuchElementException when it answered 0 (least)");
        check.refuses(board -> {
            board.require(0, 1);
            board.solve();
        }, "the first", Face::least, ELEMENT);
        check.refuses(IN_VAIN, "the second", Face::least, ELEMENT);
        Consumer<Face> solvedBefore = BUSY.andThen(board -> {
            board.clear();
            board.require(0, 1);
        });
        check.leaves(solvedBefore, "solved before there were none", Face::least, 0);
    }

    private static void leastAsItWasThen() {
        check.sentence("Of the latest solve: the least value of the objective, as it was then");
        Consumer<Face> changed = board -> {
            Check.draft(board, 3, -6).objective();
            board.solve();
            Check.draft(board, 4, -9).objective();
        };
        check.leaves(changed, "another objective since", Face::least, -6);
        check.same("and its choice", Look.solution(Check.after(changed)), "-6 0001000000");
        check.leaves(changed.andThen(Face::solve), "solved again", Face::least, -9);
        Consumer<Face> narrowed = changed.andThen(Face::solve).andThen(board -> Check.draft(board, 4, -1).require(0, 0));
        check.leaves(narrowed, "another constraint since", Face::least, -9);
        check.leaves(narrowed.andThen(Face::solve), "solved with it", Face::least, 0);
        check.leaves(changed.andThen(board -> board.found(16)), "a choice taken since", Face::least, -6);
    }

    private static void leastAtItsEnds() {
        check.sentence("the least value of the objective");
        for (int a : new int[] {99, -99}) {
            Face board = new Real();
            for (int v = 0; v < 10; v++) {
                board.term(v, a);
            }
            board.objective();
            board.solve();
            check.same("factors of " + a, Look.solution(board), a > 0 ? "0 0000000000" : "-990 1111111111");
            only(1023).accept(board);
            board.solve();
            check.same("factors of " + a + ", all true", board.least(), 10 * a);
        }
    }

    private static void valueWithoutASolve() {
        check.sentence("Throws NoSuchElementException when there was none, or it answered 0 (value)");
        for (int v : new int[] {0, 9}) {
            check.refuses(board -> { }, "new " + v, board -> board.value(v), ELEMENT);
            check.refuses(IN_VAIN, "in vain " + v, board -> board.value(v), ELEMENT);
        }
    }

    private static void valueVariables() {
        check.sentence("then IllegalArgumentException when there is no such variable (value)");
        Consumer<Face> ends = only(513).andThen(Face::solve);
        check.leaves(ends, "0", board -> board.value(0), 1);
        check.leaves(ends, "9", board -> board.value(9), 1);
        check.leaves(ends, "8", board -> board.value(8), 0);
        for (int v : new int[] {-1, -2, 10, 32, LOWEST, HIGHEST}) {
            check.refuses(ends, "value " + v, board -> board.value(v), ARGUMENT);
            check.refuses(BUSY, "value " + v + ", busy", board -> board.value(v), ARGUMENT);
        }
    }

    private static void valueLooksForASolveFirst() {
        check.sentence("Throws NoSuchElementException ..., then IllegalArgumentException (value)");
        for (int v : new int[] {-1, 10, HIGHEST}) {
            check.refuses(board -> { }, "new " + v, board -> board.value(v), ELEMENT);
            check.refuses(IN_VAIN, "in vain " + v, board -> board.value(v), ELEMENT);
        }
    }

    private static void valueFalseFirst() {
        check.sentence("that in which variable 0 is false, if there is one, then variable 1, and so on");
        for (int v = 0; v < 9; v++) {
            Face board = new Real();
            int lower = v;
            Check.draft(board, lower, 1, lower + 1, 1).require(0, 1);
            board.solve();
            check.same("one of " + v + " and the next", board.value(v) * 10 + board.value(v + 1), 1);
        }
        Face many = new Real();
        for (int v = 1; v < 10; v++) {
            Check.draft(many, 0, 1, v, 1).require(0, 1);
        }
        many.solve();
        check.same("0 false, at the price of all others", Look.solution(many), "0 0111111111");
        Check.draft(many, 0, 1).objective();
        many.solve();
        check.same("the least value is the same", Look.solution(many), "0 0111111111");
        Check.draft(many, 1, 1).objective();
        many.solve();
        check.same("the least value goes first", Look.solution(many), "0 1000000000");
        Face ties = new Real();
        Check.draft(ties, 0, 1, 4, 1, 9, 1).require(0, 2);
        Check.draft(ties, 0, -2, 4, -2, 9, -2).objective();
        Check.draft(ties, 0, 1, 4, 1, 9, 1).require(1, 2);
        ties.solve();
        check.same("among equals", Look.solution(ties), "-4 0000100001");
    }
}
