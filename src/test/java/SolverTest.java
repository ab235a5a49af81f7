import java.util.NoSuchElementException;

/** Promises 23 to 25: the solver and what it found. */
final class SolverTest {
    private static final Check check = new Check("SolverTest");
    private static final Class<IllegalArgumentException> ARGUMENT = IllegalArgumentException.class;
    private static final Class<NoSuchElementException> ELEMENT = NoSuchElementException.class;

    public static void main(String[] args) {
        promise23Solve();
        promise23SolveLooksAtGivenOnesAlone();
        promise23SolveOfAFullStore();
        promise24Least();
        promise24LeastIsOfTheLatestSolve();
        promise25Value();
        promise25ValueAmongEquals();
        promise25ValueRefuses();
        check.end();
    }

    private static void promise23Solve() {
        Face board = new Real();
        check.same("23 no constraints", board.solve(), 1);
        Check.draft(board, 0, 1, 1, 1).require(0, 2);
        check.same("23 one way", board.solve(), 1);
        check.same("23 that way", Look.solution(board), "0 1100000000");
        Check.draft(board, 0, 1, 1, -1).require(0, 1);
        check.same("23 no way", board.solve(), 0);
        check.same("23 nothing comes into the store", board.constraints(), 2);
        check.same("23 nothing comes onto the stack", board.top(-2), 0);
        Face pairs = new Real();
        Check.draft(pairs, 0, 1, 1, 1).require(0, 1);
        Check.draft(pairs, 0, 1, 1, -1).require(0, 0);
        Check.draft(pairs, 0, -1, 1, 1).require(0, 0);
        check.same("23 what closing does not find", pairs.solve(), 1);
        Check.draft(pairs, 0, -1, 1, -1).require(0, -1);
        check.same("23 nor this", pairs.solve(), 0);
        Face withVoid = new Real();
        withVoid.require(0, 1);
        check.same("23 a void one", withVoid.solve(), 0);
    }

    private static void promise23SolveLooksAtGivenOnesAlone() {
        Face board = new Real();
        Check.draft(board, 0, 3, 1, 2).objective();
        Check.draft(board, 0, 1, 1, 1).require(0, 1);
        board.found(2);
        board.load(0);
        board.load(1);
        board.add();
        board.saturate();
        board.learn();
        check.same("23 the bound is derived", board.solve(), 1);
        check.same("23 it does not count", Look.solution(board), "2 0100000000");
        Check.draft(board, 4, 1);
        board.solve();
        board.contradict(0);
        check.same("23 the draft is left", Look.stored(board, 3), "1 x4 >= 0 derived");
        Face mixed = new Real();
        mixed.axiom(0, true);
        mixed.learn();
        Check.draft(mixed, 0, 1).require(0, 1);
        mixed.contradict(0);
        mixed.solve();
        check.same("23 a given one between derived ones", Look.solution(mixed), "0 1000000000");
    }

    private static void promise23SolveOfAFullStore() {
        Face board = Check.withFullStore();
        check.same("23 thirty that all meet", board.solve(), 1);
        Face last = new Real();
        for (int k = 0; k < 29; k++) {
            last.require(0, 0);
        }
        for (int v = 0; v < 10; v++) {
            last.term(v, 1);
        }
        last.require(0, 10);
        last.solve();
        check.same("23 the last decides", Look.solution(last), "0 1111111111");
    }

    private static void promise24Least() {
        Face board = new Real();
        check.yields("24 none", board::least, ELEMENT);
        board.solve();
        check.same("24 no objective", board.least(), 0);
        for (int v = 0; v < 10; v++) {
            board.term(v, -99);
        }
        board.objective();
        board.solve();
        check.same("24 the least there is", board.least(), -990);
        Check.draft(board, 0, 1, 1, 1, 2, 1).require(0, 2);
        Check.draft(board, 0, 5, 1, 3, 2, 4).objective();
        board.solve();
        check.same("24 above 0", Look.solution(board), "7 0110000000");
        Check.draft(board, 0, 5, 1, -3, 2, 4, 3, -2).objective();
        board.solve();
        check.same("24 mixed", Look.solution(board), "-1 0111000000");
    }

    private static void promise24LeastIsOfTheLatestSolve() {
        Face board = new Real();
        Check.draft(board, 0, -4).objective();
        board.solve();
        Check.draft(board, 1, -7).objective();
        check.same("24 the objective as it was then", Look.solution(board), "-4 1000000000");
        board.solve();
        check.same("24 the latest", Look.solution(board), "-7 0100000000");
        board.require(0, 1);
        check.same("24 the constraints as they were then", Look.solution(board), "-7 0100000000");
        check.same("24 no way now", board.solve(), 0);
        check.yields("24 it answered 0", board::least, ELEMENT);
        check.yields("25 it answered 0", () -> board.value(0), ELEMENT);
    }

    private static void promise25Value() {
        Face board = new Real();
        for (int v = 0; v < 10; v++) {
            board.term(v, v % 3 == 0 ? -1 : 1);
        }
        board.objective();
        board.solve();
        check.same("25 values", Look.solution(board), "-4 1001001001");
        check.same("25 value 0", board.value(0), 1);
        check.same("25 value 1", board.value(1), 0);
        check.same("25 value 9", board.value(9), 1);
    }

    private static void promise25ValueAmongEquals() {
        Face board = new Real();
        board.solve();
        check.same("25 all equal", Look.solution(board), "0 0000000000");
        Check.draft(board, 0, 1, 9, 1).require(0, 1);
        board.solve();
        check.same("25 variable 0 is false first", Look.solution(board), "0 0000000001");
        Check.draft(board, 1, 1, 2, 1, 9, -1).require(0, 0);
        board.solve();
        check.same("25 then variable 1", Look.solution(board), "0 0010000001");
        Check.draft(board, 3, 1, 4, 1).require(0, 1);
        for (int v = 0; v < 10; v++) {
            board.term(v, 1);
        }
        board.objective();
        board.solve();
        check.same("25 the least value goes before", Look.solution(board), "2 1000100000");
        Face rest = new Real();
        for (int v = 0; v < 10; v++) {
            rest.term(v, 1);
        }
        rest.require(0, 3);
        rest.solve();
        check.same("25 three of ten", Look.solution(rest), "0 0000000111");
        Face group = new Real();
        Check.draft(group, 0, 1, 1, 1, 2, 1).require(0, 1);
        Check.draft(group, 1, 1, 2, -1).require(0, 0);
        Check.draft(group, 0, 2, 1, 1, 2, 1).objective();
        group.solve();
        check.same("25 a lower variable outweighs many", Look.solution(group), "1 0100000000");
    }

    private static void promise25ValueRefuses() {
        Face board = new Real();
        check.yields("25 none", () -> board.value(0), ELEMENT);
        check.yields("25 none first", () -> board.value(10), ELEMENT);
        board.solve();
        for (int v : new int[] {-1, -2, 10, Integer.MIN_VALUE, Integer.MAX_VALUE}) {
            check.yields("25 value " + v, () -> board.value(v), ARGUMENT);
        }
        board.require(0, 1);
        board.solve();
        check.yields("25 it answered 0 first", () -> board.value(-1), ELEMENT);
    }
}
