import java.util.NoSuchElementException;

/** Promises 18 to 22: derived constraints, choices that are taken, and what is shown by them. */
final class ProofTest {
    private static final Check check = new Check("ProofTest");
    private static final Class<IllegalArgumentException> ARGUMENT = IllegalArgumentException.class;
    private static final Class<IllegalStateException> STATE = IllegalStateException.class;
    private static final Class<NoSuchElementException> ELEMENT = NoSuchElementException.class;

    public static void main(String[] args) {
        promise18Learn();
        promise19Contradict();
        promise19ContradictOfTheTrivial();
        promise19ContradictByTheStore();
        promise19ContradictRefuses();
        promise20Found();
        promise20FoundBoundsTheObjective();
        promise20FoundMustMeetAll();
        promise20FoundRefuses();
        promise21Verdict();
        promise21VerdictOfVoidOnes();
        promise22Best();
        check.end();
    }

    private static void promise18Learn() {
        Face board = new Real();
        check.yields("18 none", board::learn, STATE);
        Check.draft(board, 0, 4, 1, -2).require(0, 1);
        board.load(0);
        board.axiom(3, false);
        board.load(0);
        board.times(2);
        check.same("18 number", board.learn(), 1);
        check.same("18 learnt", Look.stored(board, 1), "8 x0 -4 x1 >= 6 derived");
        check.same("18 off the stack", Look.top(board), "-1 x3 >= 0");
        check.same("18 next number", board.learn(), 2);
        check.same("18 learnt too", Look.stored(board, 2), "-1 x3 >= 0 derived");
        check.same("18 the given is left", Look.stored(board, 0), "4 x0 -2 x1 >= 3 given");
        board.times(5);
        board.load(1);
        board.times(3);
        check.same("18 what is done on the stack stays there", Look.stored(board, 1), "8 x0 -4 x1 >= 6 derived");
        board.drop();
        board.drop();
        check.yields("18 none again", board::learn, STATE);

        Face full = Check.withFullStore();
        check.yields("18 none, and full", full::learn, STATE);
        full.axiom(0, true);
        check.yields("18 full", full::learn, STATE);
        Face taken = new Real();
        taken.found(0);
        taken.axiom(0, true);
        check.same("18 after a choice", taken.learn(), 0);
    }

    private static void promise19Contradict() {
        Face board = new Real();
        Check.draft(board, 0, 1, 1, 1).require(0, 1);
        Check.draft(board, 0, -1, 1, 1).require(0, 0);
        Check.draft(board, 0, 1);
        check.same("19 not shown", board.contradict(1), -1);
        check.same("19 not shown: nothing in the store", board.constraints(), 2);
        Check.draft(board, 0, 0, 1, 1);
        check.same("19 shown", board.contradict(1), 2);
        check.same("19 it is derived", Look.stored(board, 2), "1 x1 >= 1 derived");
        check.same("19 the draft is cleared", Look.stored(board, board.contradict(0)), ">= 0 derived");
        Check.draft(board, 3, 1, 1, 1);
        check.same("19 not shown again", board.contradict(2), -1);
        check.same("19 not shown: the draft stays", board.contradict(1), 4);
        check.same("19 with the draft that stayed", Look.stored(board, 4), "1 x1 1 x3 >= 1 derived");
        Check.draft(board, 2, -3, 1, 2);
        check.same("19 factors below 0", board.contradict(-1), 5);
        check.same("19 normalized", Look.stored(board, 5), "2 x1 -3 x2 >= 2 derived");
        Check.draft(board, 2, -3, 1, 2);
        check.same("19 one more is too much", board.contradict(0), -1);
        Check.draft(board, 2, 0, 1, 1);
        check.same("19 the failed left no trace in close", board.close(0, 0), 2050);
    }

    private static void promise19ContradictOfTheTrivial() {
        Face board = new Real();
        check.same("19 nothing counts at least 0", board.contradict(0), 0);
        check.same("19 nothing counts at least 1", board.contradict(1), -1);
        Check.draft(board, 0, 2, 1, -3);
        check.same("19 least sum", board.contradict(-3), 1);
        check.same("19 least sum normalized", Look.stored(board, 1), "2 x0 -3 x1 >= 0 derived");
        Check.draft(board, 0, 2, 1, -3);
        check.same("19 above the least sum", board.contradict(-2), -1);
        check.same("19 b 9999", board.contradict(9999), -1);
        check.same("19 b -9999", board.contradict(-9999), 2);
        check.same("19 b -9999 normalized", Look.stored(board, 2), "2 x0 -3 x1 >= 0 derived");
        Check.draft(board, 5, 1);
        check.same("19 the contrary of a void one is met by all", board.contradict(2), -1);
        check.same("19 a void one, by far", board.contradict(500), -1);
        check.same("19 the contrary forces, without conflict", board.contradict(1), -1);
    }

    private static void promise19ContradictByTheStore() {
        Face hopeless = new Real();
        hopeless.require(0, 1);
        Check.draft(hopeless, 4, 7);
        check.same("19 with a void one all is shown", hopeless.contradict(9999), 1);
        check.same("19 even that", Look.stored(hopeless, 1), "7 x4 >= 9999 derived");

        Face pairs = new Real();
        Check.draft(pairs, 0, 1, 1, 1).require(0, 1);
        Check.draft(pairs, 0, 1, 2, 1).require(0, 1);
        Check.draft(pairs, 1, 1, 2, 1).require(0, 1);
        Check.draft(pairs, 0, 1, 1, 1, 2, 1);
        check.same("19 two of three: true, but closing does not show it", pairs.contradict(2), -1);

        Face steps = new Real();
        Check.draft(steps, 0, 1, 1, 1, 2, 1).require(0, 1);
        Check.draft(steps, 0, 1, 1, 1, 2, -1).require(0, 0);
        Check.draft(steps, 0, 1, 1, -1, 2, 1).require(0, 0);
        Check.draft(steps, 0, 1, 1, -1, 2, -1).require(0, -1);
        check.same("19 too far for one step", Check.draft(steps, 0, 1).contradict(1), -1);
        check.same("19 a step between", Check.draft(steps, 1, 1).contradict(1), 4);
        check.same("19 derived ones help", Check.draft(steps, 0, 1).contradict(1), 5);

        Face chain = new Real();
        for (int v = 8; v >= 0; v--) {
            Check.draft(chain, v, -1, v + 1, 1).require(0, 0);
        }
        Check.draft(chain, 0, -1, 9, 1);
        check.same("19 through a chain", chain.contradict(0), 9);

        Face derived = new Real();
        derived.found(0);
        Check.draft(derived, 0, 5).contradict(0);
        check.same("19 after a choice", derived.constraints(), 1);
    }

    private static void promise19ContradictRefuses() {
        Face board = new Real();
        Check.draft(board, 2, 3);
        for (int b : new int[] {-10000, 10000, Integer.MIN_VALUE, Integer.MAX_VALUE}) {
            check.yields("19 contradict " + b, () -> board.contradict(b), ARGUMENT);
        }
        board.contradict(0);
        check.same("19 wrong b leaves the draft", Look.stored(board, 0), "3 x2 >= 0 derived");
        Face full = Check.withFullStore();
        Check.draft(full, 0, -6);
        check.yields("19 full", () -> full.contradict(-9999), STATE);
        check.yields("19 full, though not shown", () -> full.contradict(9999), STATE);
        check.yields("19 wrong b first", () -> full.contradict(10000), ARGUMENT);
        full.objective();
        full.solve();
        check.same("19 full leaves the draft", full.least(), -6);
        Face last = new Real();
        for (int k = 0; k < 29; k++) {
            check.same("19 many fit", last.contradict(0), k);
        }
        check.same("19 not shown, with 29", last.contradict(1), -1);
        check.same("19 thirty fit", last.contradict(0), 29);
        check.yields("19 full of derived ones", () -> last.contradict(0), STATE);
    }

    private static void promise20Found() {
        Face board = new Real();
        check.same("20 no constraints", board.found(0), true);
        check.same("20 no objective: nothing comes into the store", board.constraints(), 0);
        check.same("20 best", board.best(), 0);
        check.same("20 again", board.found(1023), true);
        check.same("20 best again", board.best(), 0);
    }

    private static void promise20FoundBoundsTheObjective() {
        Face board = new Real();
        Check.draft(board, 0, 4, 1, -3, 9, 2).objective();
        Check.draft(board, 7, 1);
        check.same("20 taken", board.found(513), true);
        check.same("20 value", board.best(), 6);
        check.same("20 bound", Look.stored(board, 0), "-4 x0 3 x1 -2 x9 >= 1 derived");
        check.same("20 not better", board.found(513), false);
        check.same("20 not taken: best stays", board.best(), 6);
        check.same("20 not taken: nothing in the store", board.constraints(), 1);
        check.same("20 better by 4", board.found(512), true);
        check.same("20 bound again", Look.stored(board, 1), "-4 x0 3 x1 -2 x9 >= 5 derived");
        check.same("20 the latest is best", board.best(), 2);
        check.same("20 equal is not better", board.found(512), false);
        check.same("20 least", board.found(2), true);
        check.same("20 below 0", board.best(), -3);
        check.same("20 void bound", Look.stored(board, 2), "-4 x0 3 x1 -2 x9 >= 10 derived");
        check.same("20 none better", board.found(2), false);
        check.same("20 the draft is left", Look.stored(board, Check.draft(board).contradict(0)), "1 x7 >= 0 derived");
    }

    private static void promise20FoundMustMeetAll() {
        Face board = new Real();
        Check.draft(board, 0, 2, 1, 1, 2, -3).require(0, 1);
        check.same("20 degree", Look.stored(board, 0), "2 x0 1 x1 -3 x2 >= 4 given");
        check.same("20 counts 3 of 4", board.found(0), false);
        check.same("20 counts 3 of 4, by trues", board.found(7), false);
        check.same("20 not taken", board.verdict(), 0);
        check.same("20 not fixed", Check.outcome(board::objective), "nothing");
        check.same("20 counts 4 of 4", board.found(2), true);
        Face derived = new Real();
        Check.draft(derived, 5, 1).require(0, 1);
        derived.load(0);
        derived.learn();
        check.same("20 the last of all counts", derived.found(31), false);
        check.same("20 met", derived.found(32), true);
        Face bounded = new Real();
        Check.draft(bounded, 0, -1).objective();
        check.same("20 first", bounded.found(0), true);
        check.same("20 derived ones count too", bounded.found(2), false);
        check.same("20 the better meets them", bounded.found(1), true);
    }

    private static void promise20FoundRefuses() {
        Face board = new Real();
        for (int choice : new int[] {-1, 1024, Integer.MIN_VALUE, Integer.MAX_VALUE}) {
            check.yields("20 found " + choice, () -> board.found(choice), ARGUMENT);
        }
        check.same("20 not fixed by wrong ones", Check.outcome(board::objective), "nothing");
        Face full = Check.withFullStore();
        check.yields("20 full", () -> full.found(0), STATE);
        check.yields("20 wrong choice first", () -> full.found(1024), ARGUMENT);
        Check.draft(full, 0, 1).objective();
        check.yields("20 full, with an objective", () -> full.found(0), STATE);
        Face unmet = new Real();
        for (int k = 0; k < 29; k++) {
            unmet.require(0, 1);
        }
        check.same("20 room for one, not met", unmet.found(0), false);
        unmet.require(0, 1);
        check.yields("20 full, and not met", () -> unmet.found(0), STATE);
    }

    private static void promise21Verdict() {
        Face board = new Real();
        check.same("21 nothing", board.verdict(), 0);
        board.found(7);
        check.same("21 taken, no objective", board.verdict(), 3);
        Face withObjective = new Real();
        Check.draft(withObjective, 9, 1).objective();
        check.same("21 nothing, with an objective", withObjective.verdict(), 0);
        withObjective.found(512);
        check.same("21 taken, not shown to be least", withObjective.verdict(), 0);
        withObjective.found(0);
        check.same("21 the bound is void: least", withObjective.verdict(), 2);
        Face proof = new Real();
        Check.draft(proof, 0, 1, 1, 1).require(0, 1);
        Check.draft(proof, 0, 1, 1, 1).objective();
        proof.found(1);
        check.same("21 not shown yet", proof.verdict(), 0);
        proof.load(0);
        proof.load(1);
        proof.add();
        check.same("21 void, but on the stack", proof.verdict(), 0);
        proof.learn();
        check.same("21 shown", proof.verdict(), 2);
    }

    private static void promise21VerdictOfVoidOnes() {
        Face board = new Real();
        Check.draft(board, 0, 2, 1, -3).require(0, 2);
        check.same("21 sizes just the degree", board.verdict(), 0);
        Check.draft(board, 0, 2, 1, -3).require(0, 3);
        check.same("21 sizes 1 less", board.verdict(), 1);
        board.require(0, 0);
        check.same("21 not the last one", board.verdict(), 1);
        Face first = new Real();
        first.require(0, 1);
        check.same("21 the first one", first.verdict(), 1);
        first.require(0, 0);
        check.same("21 still the first one", first.verdict(), 1);
        Face contrary = new Real();
        Check.draft(contrary, 0, 1).require(0, 1);
        Check.draft(contrary, 0, 1).require(1, 0);
        check.same("21 a conflict alone shows nothing", contrary.verdict(), 0);
        check.same("21 solving shows nothing", contrary.solve() + contrary.verdict(), 0);
        contrary.contradict(1);
        check.same("21 derived void one", contrary.verdict(), 1);
        Face wrongBound = new Real();
        wrongBound.found(3);
        wrongBound.contradict(0);
        check.same("21 still no objective", wrongBound.verdict(), 3);
    }

    private static void promise22Best() {
        Face board = new Real();
        check.yields("22 none", board::best, ELEMENT);
        for (int v = 0; v < 10; v++) {
            board.term(v, v % 2 == 0 ? 99 : -99);
        }
        board.objective();
        board.solve();
        check.yields("22 solving takes none", board::best, ELEMENT);
        board.found(1023);
        check.same("22 zero", board.best(), 0);
        board.found(2);
        check.same("22 the latest", board.best(), -99);
        board.solve();
        check.same("22 solving leaves it", board.best(), -99);
        board.found(682);
        check.same("22 the least there is", board.best(), -495);
    }
}
