import java.util.Random;

/**
 * The document's first sentence from end to end: problems are solved, the solution is taken, and a
 * proof that it is the best (or that there is none) is checked. The proof goes through the cases of
 * three variables: each case is refuted by contradiction, then each pair of cases together.
 */
final class WholeProofTest {
    private static final int PROBLEMS = 400;
    private static final int USED = 3;

    private final Check check;
    private final Random random;
    private final String problem;
    private final Face board = new Real();
    private boolean aims = false;

    private WholeProofTest(Check check, int number) {
        this.check = check;
        this.random = new Random(number);
        this.problem = "problem " + number + ": ";
    }

    public static void main(String[] args) {
        Check check = new Check("WholeProofTest");
        for (int number = 0; number < PROBLEMS; number++) {
            new WholeProofTest(check, number).solveAndProve();
        }
        aWrongProofShowsNothing(check);
        check.end();
    }

    private void solveAndProve() {
        aims = drafts() != 0;
        board.objective();
        for (int k = random.nextInt(6); k >= 0; k--) {
            drafts();
            board.require(random.nextInt(2), random.nextInt(7) - 3);
        }
        check.same(problem + "nothing is shown yet", board.verdict() <= 1, true);
        boolean solvable = board.solve() == 1;
        if (solvable) {
            takeSolution();
        }
        if (solvable && !aims) {
            check.same(problem + "every choice is best", board.verdict(), 3);
            return;
        }
        refute(0, 0);
        check.same(problem + "verdict", board.verdict(), solvable ? 2 : 1);
        check.same(problem + "the solver finds the same", board.solve() == 1, solvable);
    }

    /** Some factors; 0 if all of them are 0. */
    private int drafts() {
        int any = 0;
        for (int v = 0; v < USED; v++) {
            int a = random.nextInt(9) - 4;
            board.term(v, a);
            any |= a;
        }
        return any;
    }

    private void takeSolution() {
        int choice = 0;
        for (int v = 0; v < 10; v++) {
            choice |= board.value(v) << v;
        }
        check.same(problem + "the solution meets all", board.found(choice), true);
        check.same(problem + "best", board.best(), board.least());
    }

    /** Shows that not all of the first variables are as the case says; the last step shows "0 is at least 1". */
    private void refute(int settled, int truths) {
        if (settled < USED) {
            refute(settled + 1, truths);
            refute(settled + 1, truths | 1 << settled);
        }
        for (int v = 0; v < settled; v++) {
            board.term(v, (truths >> v & 1) == 1 ? -1 : 1);
        }
        int number = board.constraints();
        check.same(problem + "case " + settled + " " + truths, board.contradict(1 - Integer.bitCount(truths)), number);
        check.same(problem + "a derived one", board.constraint(number, -2), 0);
        check.same(problem + "degree", board.constraint(number, -1), 1);
    }

    /** A choice that is not the best is taken: no step by contradiction may show that it is. */
    private static void aWrongProofShowsNothing(Check check) {
        Face board = new Real();
        Check.draft(board, 0, 3, 1, 2).objective();
        Check.draft(board, 0, 1, 1, 1).require(0, 1);
        check.same("taken", board.found(1), true);
        check.same("0 is at least 1", board.contradict(1), -1);
        Check.draft(board, 1, -1);
        check.same("variable 1 is false", board.contradict(0), -1);
        board.clear();
        Check.draft(board, 0, -1);
        check.same("variable 0 is false", board.contradict(0), 2);
        check.same("nothing is shown", board.verdict(), 0);
        check.same("the better one", board.found(2), true);
        check.same("still nothing is shown", board.verdict(), 0);
        check.same("now 0 is at least 1", board.contradict(1), 4);
        check.same("the best is least", board.verdict(), 2);
    }
}
