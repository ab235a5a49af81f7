import java.util.NoSuchElementException;

/** Promises 1 to 8: a new object, the draft, the store, the objective, and closing. */
final class DraftAndStoreTest {
    private static final Check check = new Check("DraftAndStoreTest");
    private static final Class<IllegalArgumentException> ARGUMENT = IllegalArgumentException.class;
    private static final Class<IllegalStateException> STATE = IllegalStateException.class;
    private static final Class<NoSuchElementException> ELEMENT = NoSuchElementException.class;

    public static void main(String[] args) {
        promise1NewObject();
        promise2Term();
        promise3Clear();
        promise4Require();
        promise4RequireAtItsEdges();
        promise4RequireRefuses();
        promise5Objective();
        promise6Constraints();
        promise7Constraint();
        promise8Close();
        promise8CloseForcesJustWhatItMust();
        promise8CloseGoesThroughChains();
        promise8CloseComesToConflicts();
        promise8CloseRefuses();
        check.end();
    }

    private static Face board(int... pairs) {
        return Check.draft(new Real(), pairs);
    }

    private static void promise1NewObject() {
        Face board = new Real();
        check.same("1 answers", Look.ANSWERS.at(board), "verdict 0, best NoSuchElementException, solved none");
        check.same("1 constraints", board.constraints(), 0);
        check.yields("1 best", board::best, ELEMENT);
        check.yields("1 least", board::least, ELEMENT);
        check.yields("1 value", () -> board.value(0), ELEMENT);
        check.yields("1 drop", board::drop, STATE);
        check.same("1 close", board.close(0, 0), 0);
        check.same("1 draft", Look.stored(board, board.require(0, 0)), ">= 0 given");
        check.same("1 objective is 0", board.found(1023), true);
        check.same("1 no bound", board.constraints(), 1);
        Face other = new Real();
        check.same("1 another object has its own store", other.constraints(), 0);
    }

    private static void promise2Term() {
        Face board = board(0, 99, 9, -99, 4, 1, 4, 7);
        check.same("2 edges, and the latest stays",
                Look.stored(board, board.require(0, 0)), "99 x0 7 x4 -99 x9 >= 99 given");
        Check.draft(board, 3, 5, 3, 0);
        check.same("2 back to 0", Look.stored(board, board.require(0, 1)), ">= 1 given");
        Check.draft(board, 2, 6);
        int[][] wrong = {
            {-1, 0}, {10, 0}, {2, 100}, {2, -100}, {-1, 100}, {10, 1}, {Integer.MIN_VALUE, 1},
            {Integer.MAX_VALUE, 1}, {2, Integer.MIN_VALUE}, {2, Integer.MAX_VALUE}};
        for (int[] pair : wrong) {
            check.yields("2 term " + pair[0] + " " + pair[1], () -> board.term(pair[0], pair[1]), ARGUMENT);
        }
        check.same("2 wrong terms leave the draft", Look.stored(board, board.require(0, 1)), "6 x2 >= 1 given");
    }

    private static void promise3Clear() {
        Face board = board(0, 1, 5, -3, 9, 9);
        board.clear();
        check.same("3 clear", Look.stored(board, board.require(0, 2)), ">= 2 given");
        Check.draft(board, 0, 1);
        board.objective();
        Check.draft(board, 0, 5);
        board.clear();
        board.clear();
        board.solve();
        check.same("3 clear leaves store and objective", board.constraints(), 1);
        board.found(0);
        Check.draft(board, 0, 1);
        check.same("3 the objective stays", board.solve(), 0);
    }

    private static void promise4Require() {
        Face board = board(0, 3, 1, -2, 2, -5);
        check.same("4 number", board.require(0, 1), 0);
        check.same("4 at least", Look.stored(board, 0), "3 x0 -2 x1 -5 x2 >= 8 given");
        check.same("4 next number", Check.draft(board, 0, 3, 1, -2, 2, -5).require(1, 1), 1);
        check.same("4 at most", Look.stored(board, 1), "-3 x0 2 x1 5 x2 >= 2 given");
        check.same("4 the draft is cleared", Look.stored(board, board.require(0, 0)), ">= 0 given");
        board.require(1, 0);
        check.same("4 at most with an empty draft", Look.stored(board, 3), ">= 0 given");
        board.require(1, -1);
        check.same("4 at most -1", Look.stored(board, 4), ">= 1 given");
    }

    private static void promise4RequireAtItsEdges() {
        Face board = new Real();
        Check.draft(board, 0, 1).require(0, 9999);
        Check.draft(board, 0, 1).require(0, -9999);
        Check.draft(board, 0, 1).require(1, 9999);
        Check.draft(board, 0, 1).require(1, -9999);
        Check.draft(board, 0, -4, 1, 2).require(0, -4);
        Check.draft(board, 0, -4, 1, 2).require(0, -5);
        Check.draft(board, 0, -4, 1, 2).require(0, -3);
        check.same("4 b 9999", Look.stored(board, 0), "1 x0 >= 9999 given");
        check.same("4 b -9999", Look.stored(board, 1), "1 x0 >= 0 given");
        check.same("4 at most 9999", Look.stored(board, 2), "-1 x0 >= 0 given");
        check.same("4 at most -9999", Look.stored(board, 3), "-1 x0 >= 10000 given");
        check.same("4 degree just 0", Look.stored(board, 4), "-4 x0 2 x1 >= 0 given");
        check.same("4 degree not below 0", Look.stored(board, 5), "-4 x0 2 x1 >= 0 given");
        check.same("4 degree just 1", Look.stored(board, 6), "-4 x0 2 x1 >= 1 given");
        for (int v = 0; v < 10; v++) {
            board.term(v, -99);
        }
        check.same("4 the greatest degree", board.constraint(board.require(0, 9999), -1), 10989);
    }

    private static void promise4RequireRefuses() {
        Face board = board(3, 4);
        int[][] wrong = {
            {-1, 0}, {2, 0}, {0, 10000}, {0, -10000}, {1, 10000}, {1, -10000},
            {Integer.MAX_VALUE, 0}, {0, Integer.MIN_VALUE}, {1, Integer.MIN_VALUE}, {1, Integer.MAX_VALUE}};
        for (int[] pair : wrong) {
            check.yields("4 require " + pair[0] + " " + pair[1], () -> board.require(pair[0], pair[1]), ARGUMENT);
        }
        check.same("4 wrong calls leave the draft", Look.stored(board, board.require(0, 1)), "4 x3 >= 1 given");

        Face full = Check.withFullStore();
        check.same("4 thirty fit", full.constraints(), 30);
        Check.draft(full, 1, -7);
        check.yields("4 the 31st", () -> full.require(0, 0), STATE);
        check.yields("4 wrong kind first", () -> full.require(2, 0), ARGUMENT);
        check.yields("4 wrong b first", () -> full.require(0, 10000), ARGUMENT);
        full.objective();
        full.solve();
        check.same("4 the 31st leaves the draft", full.least(), -7);

        Face taken = new Real();
        taken.found(0);
        Check.draft(taken, 1, 2);
        check.yields("4 after a choice", () -> taken.require(0, 0), STATE);
        check.yields("4 wrong kind first after a choice", () -> taken.require(-1, 0), ARGUMENT);
        taken.contradict(0);
        check.same("4 the draft is left", Look.stored(taken, 0), "2 x1 >= 0 derived");
    }

    private static void promise5Objective() {
        Face board = board(0, -3, 1, 2, 9, -1);
        board.objective();
        check.same("5 the draft is cleared", Look.stored(board, board.require(0, 0)), ">= 0 given");
        board.solve();
        check.same("5 objective", Look.solution(board), "-4 1000000001");
        Check.draft(board, 1, -5).objective();
        board.solve();
        check.same("5 it is replaced, not added to", Look.solution(board), "-5 0100000000");
        board.objective();
        board.solve();
        check.same("5 an empty one", Look.solution(board), "0 0000000000");
        Check.draft(board, 2, 1).objective();
        check.same("5 not fixed by a choice that is not taken",
                Check.draft(board, 0, 1).require(0, 1) == 1 && !board.found(0), true);
        Check.draft(board, 2, 4).objective();
        board.found(5);
        check.same("5 value", board.best(), 4);
        Check.draft(board, 3, 1);
        check.yields("5 fixed", board::objective, STATE);
        board.contradict(0);
        check.same("5 fixed leaves the draft", Look.stored(board, 3), "1 x3 >= 0 derived");

        Face without = new Real();
        without.found(0);
        check.yields("5 fixed, with all factors 0", without::objective, STATE);
    }

    private static void promise6Constraints() {
        Face board = board(0, 1);
        board.objective();
        check.same("6 none", board.constraints(), 0);
        board.require(0, 0);
        check.same("6 require", board.constraints(), 1);
        board.axiom(0, true);
        check.same("6 the stack does not count", board.constraints(), 1);
        board.learn();
        check.same("6 learn", board.constraints(), 2);
        board.contradict(0);
        check.same("6 contradict", board.constraints(), 3);
        board.contradict(1);
        check.same("6 contradict that fails", board.constraints(), 3);
        board.found(0);
        check.same("6 found", board.constraints(), 4);
        board.solve();
        check.same("6 solve", board.constraints(), 4);
    }

    private static void promise7Constraint() {
        Face board = board(0, 1, 9, -2);
        check.yields("7 empty store", () -> board.constraint(0, 0), ELEMENT);
        board.require(0, 1);
        board.axiom(4, false);
        board.learn();
        check.same("7 weight 0", board.constraint(0, 0), 1);
        check.same("7 weight 9", board.constraint(0, 9), -2);
        check.same("7 weight of one that does not occur", board.constraint(0, 5), 0);
        check.same("7 degree", board.constraint(0, -1), 3);
        check.same("7 given", board.constraint(0, -2), 1);
        check.same("7 derived", board.constraint(1, -2), 0);
        check.same("7 weight of the second", board.constraint(1, 4), -1);
        for (int k : new int[] {-1, 2, 30, Integer.MIN_VALUE, Integer.MAX_VALUE}) {
            check.yields("7 k " + k, () -> board.constraint(k, 0), ELEMENT);
            check.yields("7 k first " + k, () -> board.constraint(k, 10), ELEMENT);
        }
        for (int v : new int[] {-3, 10, Integer.MIN_VALUE, Integer.MAX_VALUE}) {
            check.yields("7 v " + v, () -> board.constraint(1, v), ARGUMENT);
        }
        check.yields("7 k 30", () -> Check.withFullStore().constraint(30, 0), ELEMENT);
    }

    private static int code(int known, int truths) {
        return known * 1024 + truths;
    }

    private static void promise8Close() {
        Face board = new Real();
        check.same("8 nothing known", board.close(0, 0), 0);
        check.same("8 all known", board.close(1023, 1023), code(1023, 1023));
        check.same("8 all false", board.close(1023, 0), code(1023, 0));
        check.same("8 values of open variables do not count", board.close(5, 7), code(5, 5));
        check.same("8 values without known", board.close(0, 1023), 0);
        Check.draft(board, 0, -1, 1, 1).require(0, 0);
        check.same("8 nothing forced", board.close(0, 0), 0);
        check.same("8 implied", board.close(1, 1), code(3, 3));
        check.same("8 implied back", board.close(2, 0), code(3, 0));
        check.same("8 not implied", board.close(2, 2), code(2, 2));
        check.same("8 conflict among the known", board.close(3, 1), -1);
        check.same("8 no conflict among the known", board.close(3, 2), code(3, 2));
        board.axiom(5, true);
        board.learn();
        check.same("8 a degree of 0 forces nothing", board.close(0, 0), 0);
        Check.draft(board, 7, 1).require(0, 1);
        board.load(2);
        board.axiom(8, false);
        board.add();
        board.learn();
        check.same("8 changes nothing", board.constraints(), 4);
        check.same("8 forced from nothing", board.close(0, 0), code(128, 128));
        check.same("8 known against it", board.close(128, 0), -1);
    }

    private static void promise8CloseForcesJustWhatItMust() {
        Face board = new Real();
        Check.draft(board, 0, 3, 1, 2, 2, -1).require(0, 2);
        check.same("8 degree", Look.stored(board, 0), "3 x0 2 x1 -1 x2 >= 3 given");
        check.same("8 slack 3, greatest size 3", board.close(0, 0), 0);
        check.same("8 slack 2: size 3 is forced, size 2 is not", board.close(4, 4), code(5, 5));
        check.same("8 slack 1", board.close(2, 0), code(3, 1));
        check.same("8 slack 0: the rest is forced, false where that counts", board.close(1, 0), code(7, 2));
        check.same("8 slack below 0", board.close(3, 0), -1);
        check.same("8 slack below 0 by 1", board.close(5, 4), -1);
        Face derived = new Real();
        Check.draft(derived, 3, 1).require(0, 1);
        derived.load(0);
        derived.learn();
        derived.load(0);
        derived.times(5);
        derived.learn();
        Check.draft(derived, 3, 2).contradict(2);
        check.same("8 derived ones force too", derived.close(0, 0), code(8, 8));
    }

    private static void promise8CloseGoesThroughChains() {
        Face board = new Real();
        for (int v = 8; v >= 0; v--) {
            Check.draft(board, v, -1, v + 1, 1).require(0, 0);
        }
        check.same("8 chain up", board.close(1, 1), code(1023, 1023));
        check.same("8 chain down", board.close(512, 0), code(1023, 0));
        check.same("8 chain from the middle", board.close(16, 16), code(1008, 1008));
        Check.draft(board, 0, 1).require(0, 1);
        check.same("8 chain from nothing, the first link last", board.close(0, 0), code(1023, 1023));
        Face allOut = new Real();
        for (int v = 0; v < 10; v++) {
            allOut.term(v, 1);
        }
        allOut.require(1, 0);
        check.same("8 one constraint forces all", allOut.close(0, 0), code(1023, 0));
    }

    private static void promise8CloseComesToConflicts() {
        Face board = new Real();
        for (int v = 0; v < 10; v++) {
            board.term(v, 1);
        }
        board.require(1, 9);
        for (int v = 8; v >= 0; v--) {
            Check.draft(board, v, -1, v + 1, 1).require(0, 0);
        }
        check.same("8 conflict at the end of a chain", board.close(1, 1), -1);
        check.same("8 the first link is forced back", board.close(2, 2), code(1023, 1022));
        Face both = new Real();
        Check.draft(both, 4, 1).require(0, 1);
        Check.draft(both, 4, 1).require(1, 0);
        check.same("8 forced to be both", both.close(0, 0), -1);
        Face withVoid = new Real();
        withVoid.require(0, 1);
        check.same("8 a void one", withVoid.close(0, 0), -1);
        check.same("8 a void one, all known", withVoid.close(1023, 5), -1);
        Face pigeons = new Real();
        Check.draft(pigeons, 0, 1, 1, 1).require(0, 1);
        Check.draft(pigeons, 0, 1, 1, -1).require(0, 0);
        Check.draft(pigeons, 0, -1, 1, 1).require(0, 0);
        Check.draft(pigeons, 0, -1, 1, -1).require(0, -1);
        check.same("8 closing finds not every contradiction", pigeons.close(0, 0), 0);
    }

    private static void promise8CloseRefuses() {
        Face board = board(0, 1);
        board.require(0, 1);
        for (int set : new int[] {-1, 1024, Integer.MIN_VALUE, Integer.MAX_VALUE}) {
            check.yields("8 known " + set, () -> board.close(set, 0), ARGUMENT);
            check.yields("8 values " + set, () -> board.close(0, set), ARGUMENT);
        }
    }
}
