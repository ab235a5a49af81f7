import java.util.NoSuchElementException;
import java.util.function.Consumer;

/** The boundary cases of promises 18 to 22, sentence by sentence. */
final class ProofEdgesTest {
    private static final Check check = new Check("ProofEdgesTest");
    private static final int LOWEST = Integer.MIN_VALUE;
    private static final int HIGHEST = Integer.MAX_VALUE;
    private static final Class<IllegalArgumentException> ARGUMENT = IllegalArgumentException.class;
    private static final Class<IllegalStateException> STATE = IllegalStateException.class;
    private static final Class<NoSuchElementException> ELEMENT = NoSuchElementException.class;

    private static final Situation BUSY = Situation.BUSY;
    private static final Situation ALMOST = Situation.open(29, 3);
    private static final Situation FULL = Situation.open(30, 3);
    private static final Situation TAKEN = Situation.taken(4, 3);
    private static final Situation FULL_AND_TAKEN = Situation.taken(30, 3);
    private static final Situation AIMLESS = new Situation(false, true, 29, 3, false);

    public static void main(String[] args) {
        learnNeedsOne();
        learnWithAFullStore();
        learnTakesTheTopmost();
        contradictBounds();
        contradictWithAFullStore();
        contradictLooksAtTheBoundFirst();
        contradictNotShown();
        contradictShown();
        contradictContrary();
        contradictAfterAChoice();
        foundChoices();
        foundWithAFullStore();
        foundLooksAtTheChoiceFirst();
        foundNotMet();
        foundLessOne();
        foundWithoutFactors();
        foundInTheLastPlace();
        foundLeavesTheRest();
        verdictWithoutVoid();
        verdictWithVoid();
        verdictWithoutObjective();
        bestWithoutAChoice();
        check.end();
    }

    private static void learnNeedsOne() {
        check.sentence("Throws IllegalStateException when there is none (learn)");
        check.refuses(Situation.open(4, 0), "none", Face::learn, STATE);
        check.same("one", Check.after(Situation.open(4, 1)).learn(), 4);
        check.refuses(Situation.open(4, 1).andThen(Face::learn), "none is left", Face::learn, STATE);
        check.refuses(Situation.open(30, 0), "none, and the store has 30", Face::learn, STATE);
    }

    private static void learnWithAFullStore() {
        check.sentence("Throws IllegalStateException when the store has 30 (learn)");
        Face board = Check.after(ALMOST);
        check.same("29", board.learn(), 29);
        check.same("the 30th", Look.stored(board, 29), "-1 x7 >= 0 derived");
        check.refuses(FULL, "30", Face::learn, STATE);
        check.refuses(FULL_AND_TAKEN, "30, after a choice", Face::learn, STATE);
        check.refuses(ALMOST.andThen(Face::learn), "30 by learn", Face::learn, STATE);
    }

    private static void learnTakesTheTopmost() {
        check.sentence("The topmost goes off the stack and into the store, as a derived constraint: its number");
        Consumer<Face> learnt = BUSY.andThen(Face::learn);
        check.same("off the stack", Look.STACK.at(Check.after(learnt)), "-2 x4 -2 x5 >= 2; 3 x0 -2 x1 1 x9 >= 2; 2 then 0");
        check.same("into the store", Look.stored(Check.after(learnt), 4), "-1 x7 >= 0 derived");
        Consumer<Face> loaded = board -> {
            Check.draft(board, 0, 1).require(0, 1);
            board.load(0);
            board.learn();
        };
        check.same("derived, if it was given too", Look.STORE.at(Check.after(loaded)),
                "1 x0 >= 1 given; 1 x0 >= 1 derived; 2");
        check.same("after a choice", Check.after(TAKEN).learn(), 4);
    }

    private static void contradictBounds() {
        check.sentence("Throws IllegalArgumentException when b is not -9999 .. 9999 (contradict)");
        check.same("-9999", Check.after(BUSY).contradict(-9999), 4);
        check.leaves(BUSY, "9999", board -> board.contradict(9999), -1);
        Consumer<Face> hopeless = board -> {
            board.require(0, 1);
            board.term(0, 1);
        };
        check.same("9999, shown", Check.after(hopeless).contradict(9999), 1);
        for (int b : new int[] {-10000, 10000, LOWEST, HIGHEST}) {
            check.refuses(BUSY, "contradict " + b, board -> board.contradict(b), ARGUMENT);
            check.refuses(hopeless, "contradict " + b + ", with a void one", board -> board.contradict(b), ARGUMENT);
            check.refuses(TAKEN, "contradict " + b + ", after a choice", board -> board.contradict(b), ARGUMENT);
        }
    }

    private static void contradictWithAFullStore() {
        check.sentence("then IllegalStateException when the store has 30 (contradict)");
        check.same("29, shown", Check.after(ALMOST).contradict(-9999), 29);
        check.leaves(ALMOST, "29, not shown", board -> board.contradict(9999), -1);
        check.refuses(FULL, "30, what would be shown", board -> board.contradict(-9999), STATE);
        check.refuses(FULL, "30, what would not be shown", board -> board.contradict(9999), STATE);
        check.refuses(FULL_AND_TAKEN, "30, after a choice", board -> board.contradict(-9999), STATE);
    }

    private static void contradictLooksAtTheBoundFirst() {
        check.sentence("Throws IllegalArgumentException ..., then IllegalStateException (contradict)");
        for (int b : new int[] {-10000, 10000, HIGHEST}) {
            check.refuses(FULL, "contradict " + b, board -> board.contradict(b), ARGUMENT);
        }
    }

    private static void contradictNotShown() {
        check.sentence("-1, changing nothing, if it does not");
        check.leaves(BUSY, "one above the least sum", board -> board.contradict(-10), -1);
        check.leaves(TAKEN, "after a choice", board -> board.contradict(-10), -1);
        check.leaves(board -> { }, "on a new board", board -> board.contradict(1), -1);
        Face board = Check.after(BUSY);
        board.contradict(-10);
        board.contradict(0);
        check.same("the draft is still there", board.contradict(-11), 4);
        check.same("and whole", Look.stored(board, 4), "-1 x3 -2 x6 4 x7 -8 x8 >= 0 derived");
    }

    private static void contradictShown() {
        check.sentence("comes into the store as a derived constraint, and the draft is cleared: its number");
        Consumer<Face> shown = BUSY.andThen(board -> board.contradict(-11));
        check.same("the store", Look.stored(Check.after(shown), 4), "-1 x3 -2 x6 4 x7 -8 x8 >= 0 derived");
        check.same("the draft", Look.DRAFT.at(Check.after(shown)), ">= 0 derived");
        check.same("the stack is left", Look.STACK.at(Check.after(shown)), Look.STACK.at(Check.after(BUSY)));
    }

    /** What contradicting "the factors, at least b" answers, with "x0 and x1, at least 1" in the store. */
    private static int contradicted(int b, int... pairs) {
        Face board = new Real();
        Check.draft(board, 0, 1, 1, 1).require(0, 1);
        return Check.draft(board, pairs).contradict(b);
    }

    private static void contradictContrary() {
        check.sentence("as degree the sum of all sizes and 1, less the degree (0 if that is below 0)");
        check.same("degree 0: the contrary is void", contradicted(0, 2, 3), 1);
        check.same("degree 1: not shown of others", contradicted(1, 2, 3), -1);
        check.same("degree 1: the contrary forces both", contradicted(1, 0, 3, 1, 2), 1);
        check.same("degree 2: the contrary, 4 of 5, forces both", contradicted(2, 0, 3, 1, 2), 1);
        check.same("degree 3: the contrary, 3 of 5, forces one", contradicted(3, 0, 3, 1, 2), -1);
        check.same("the degree is all sizes: 1", contradicted(5, 0, 3, 1, 2), -1);
        check.same("the degree is 1 more: 0", contradicted(6, 0, 3, 1, 2), -1);
        check.same("the degree is 2 more: not below 0", contradicted(7, 0, 3, 1, 2), -1);
        check.same("the degree is far more", contradicted(9999, 0, 3, 1, 2), -1);
        check.same("factors below 0, their least sum", contradicted(-5, 0, -3, 1, -2), 1);
        check.same("factors below 0, 1 above", contradicted(-4, 0, -3, 1, -2), -1);
        check.same("an empty draft, degree 0", contradicted(0), 1);
        check.same("an empty draft, degree 1", contradicted(1), -1);
        check.sentence("closing the choice in which all are open, over the store and its CONTRARY");
        Face conflict = new Real();
        Check.draft(conflict, 0, 1).require(0, 1);
        Check.draft(conflict, 0, 1).require(1, 0);
        check.same("a conflict of the store alone shows all", Check.draft(conflict, 5, 1).contradict(9999), 2);
    }

    private static void contradictAfterAChoice() {
        check.sentence("contradict is not refused when a choice was taken");
        check.same("shown", Check.after(TAKEN).contradict(-11), 4);
        Face bounded = new Real();
        Check.draft(bounded, 0, 1, 1, 1).require(0, 1);
        Check.draft(bounded, 0, 1, 1, 1).objective();
        bounded.found(1);
        check.same("the bound is part of the store", bounded.contradict(1), 2);
        check.same("so the best is least", bounded.verdict(), 2);
    }

    private static void foundChoices() {
        check.sentence("Throws IllegalArgumentException when it is not 0 .. 1023");
        check.same("0", Check.after(Face::clear).found(0), true);
        check.same("1023", Check.after(Face::clear).found(1023), true);
        Consumer<Face> aimed = board -> {
            Check.draft(board, 0, 1, 9, 2).objective();
        };
        Face all = Check.after(aimed);
        all.found(1023);
        check.same("1023 has all true", all.best(), 3);
        Face none = Check.after(aimed);
        none.found(0);
        check.same("0 has all false", none.best(), 0);
        for (int choice : new int[] {-1, 1024, 2048, LOWEST, HIGHEST}) {
            check.refuses(BUSY, "found " + choice, board -> board.found(choice), ARGUMENT);
            check.refuses(TAKEN, "found " + choice + " after a choice", board -> board.found(choice), ARGUMENT);
        }
    }

    private static void foundWithAFullStore() {
        check.sentence("then IllegalStateException when the store has 30 (found)");
        check.refuses(FULL, "a choice that meets all", board -> board.found(1), STATE);
        check.refuses(FULL, "a choice that does not", board -> board.found(2), STATE);
        check.refuses(FULL_AND_TAKEN, "after a choice", board -> board.found(1), STATE);
        check.refuses(new Situation(false, true, 30, 3, false), "all factors 0", board -> board.found(1), STATE);
        check.refuses(new Situation(false, false, 30, 3, false), "all factors 0, the first", board -> board.found(1), STATE);
    }

    private static void foundLooksAtTheChoiceFirst() {
        check.sentence("Throws IllegalArgumentException ..., then IllegalStateException (found)");
        for (int choice : new int[] {-1, 1024, HIGHEST}) {
            check.refuses(FULL, "found " + choice, board -> board.found(choice), ARGUMENT);
            check.refuses(FULL_AND_TAKEN, "found " + choice + " after a choice", board -> board.found(choice), ARGUMENT);
        }
    }

    private static void foundNotMet() {
        check.sentence("False, changing nothing, when it does not meet them");
        check.leaves(BUSY, "a given one", board -> board.found(2), false);
        check.leaves(BUSY, "another given one", board -> board.found(1 + 16 + 32), false);
        check.leaves(TAKEN, "the bound", board -> board.found(1), false);
        check.leaves(board -> board.require(0, 1), "a void one", board -> board.found(0), false);
        check.leaves(ALMOST, "with 29", board -> board.found(2), false);
    }

    private static void foundLessOne() {
        check.sentence("\"the objective is at most the best less 1\" comes into the store, normalized, as a derived constraint");
        Face board = new Real();
        Check.draft(board, 0, 2, 1, 1, 9, -4).objective();
        check.same("value 3", board.found(3), true);
        check.same("at most 2", Look.stored(board, 0), "-2 x0 -1 x1 4 x9 >= 1 derived");
        check.same("3 again", board.found(3), false);
        check.same("2", board.found(1), true);
        check.same("at most 1", Look.stored(board, 1), "-2 x0 -1 x1 4 x9 >= 2 derived");
        check.same("-4", board.found(512), true);
        check.same("at most -5, which is void", Look.stored(board, 2), "-2 x0 -1 x1 4 x9 >= 8 derived");
        check.same("nothing is better", board.found(512), false);
        Face greatest = new Real();
        for (int v = 0; v < 10; v++) {
            greatest.term(v, 99);
        }
        greatest.objective();
        greatest.found(1023);
        check.same("the greatest value", greatest.best(), 990);
        check.same("at most 989", greatest.constraint(0, -1), 1);
        Face least = new Real();
        for (int v = 0; v < 10; v++) {
            least.term(v, -99);
        }
        least.objective();
        least.found(1023);
        check.same("the least value", least.best(), -990);
        check.same("at most -991", least.constraint(0, -1), 991);
        check.same("is void", least.verdict(), 2);
    }

    private static void foundWithoutFactors() {
        check.sentence("if a factor of the objective is not 0");
        for (int v = 0; v < 10; v++) {
            for (int a : new int[] {1, -1}) {
                Face board = new Real();
                Check.draft(board, v, a).objective();
                board.found(0);
                check.same("factor " + a + " of " + v, board.constraints(), 1);
            }
        }
        Face none = new Real();
        check.same("all factors 0", none.found(5), true);
        check.same("nothing comes into the store", none.constraints(), 0);
        check.same("taken again", none.found(5), true);
        check.same("nothing again", none.constraints(), 0);
    }

    private static void foundInTheLastPlace() {
        check.sentence("the store has 30: found with 29");
        Face board = Check.after(ALMOST);
        check.same("taken", board.found(1), true);
        check.same("the 30th", Look.stored(board, 29), "-5 x0 3 x1 -2 x9 >= 3 derived");
        check.yields("full", () -> board.found(3), STATE);
        check.same("the best is left", board.best(), 5);
        Face aimless = Check.after(AIMLESS);
        check.same("all factors 0: taken", aimless.found(0), true);
        check.same("29 are left", aimless.constraints(), 29);
        check.same("and taken again", aimless.found(1), true);
    }

    private static void foundLeavesTheRest() {
        check.sentence("Takes a choice: its value is the best, and the bound comes into the store (and nothing else changes)");
        Consumer<Face> taken = BUSY.andThen(board -> board.found(1));
        check.same("the draft", Look.DRAFT.at(Check.after(taken)), "-1 x3 -2 x6 4 x7 -8 x8 >= 0 derived");
        check.same("the stack", Look.STACK.at(Check.after(taken)), Look.STACK.at(Check.after(BUSY)));
        check.same("the given ones and the objective", Look.SOLVED_ANEW.at(Check.after(taken)),
                Look.SOLVED_ANEW.at(Check.after(BUSY)));
        check.same("the latest solve", Look.solution(Check.after(taken)), Look.solution(Check.after(BUSY)));
        check.same("the earlier constraints", Look.STORE.at(Check.after(taken)),
                Look.STORE.at(Check.after(BUSY)).replaceAll("4$", "-5 x0 3 x1 -2 x9 >= 3 derived; 5"));
    }

    private static void verdictWithoutVoid() {
        check.sentence("0 when nothing is shown");
        check.leaves(board -> { }, "new", Face::verdict, 0);
        check.leaves(BUSY, "not taken", Face::verdict, 0);
        check.leaves(TAKEN, "taken", Face::verdict, 0);
        check.leaves(FULL, "thirty", Face::verdict, 0);
        Consumer<Face> onTheStack = board -> {
            Check.draft(board, 0, 1).require(0, 1);
            Check.draft(board, 0, 1).require(1, 0);
            board.load(0);
            board.load(1);
            board.add();
        };
        check.leaves(onTheStack, "void, on the stack alone", Face::verdict, 0);
        check.same("learnt", Check.after(onTheStack.andThen(Face::learn)).verdict(), 1);
    }

    private static void verdictWithVoid() {
        check.sentence("with a void constraint in the store: 1 when no choice was taken, 2 when one was");
        check.leaves(board -> board.require(0, 1), "none taken", Face::verdict, 1);
        Consumer<Face> inTheMiddle = BUSY.andThen(board -> {
            board.clear();
            board.require(0, 1);
            board.require(0, 0);
        });
        check.leaves(inTheMiddle, "in the middle", Face::verdict, 1);
        Consumer<Face> last = ALMOST.andThen(board -> {
            board.clear();
            board.require(0, 1);
        });
        check.leaves(last, "the 30th", Face::verdict, 1);
        Consumer<Face> least = board -> {
            Check.draft(board, 0, 1).objective();
            board.found(0);
        };
        check.leaves(least, "taken", Face::verdict, 2);
        Consumer<Face> notLeast = board -> {
            Check.draft(board, 0, 1).objective();
            board.found(1);
        };
        check.leaves(notLeast, "taken, and 1 above", Face::verdict, 0);
        Consumer<Face> missed = board -> {
            board.require(0, 1);
            board.found(0);
        };
        check.leaves(missed, "a choice that was not taken", Face::verdict, 1);
    }

    private static void verdictWithoutObjective() {
        check.sentence("3 without a void one, when a choice was taken and all factors of the objective are 0");
        check.leaves(board -> board.found(0), "taken", Face::verdict, 3);
        check.leaves(AIMLESS, "with constraints", Face::verdict, 3);
        check.leaves(new Situation(false, false, 4, 3, false), "not taken", Face::verdict, 0);
        for (int v : new int[] {0, 9}) {
            Consumer<Face> aimed = board -> {
                Check.draft(board, v, 1).objective();
                board.found(1023);
            };
            check.leaves(aimed, "one factor is not 0", Face::verdict, 0);
        }
        check.leaves(BUSY.andThen(board -> {
            board.clear();
            board.objective();
            board.found(1);
        }), "all factors 0 again", Face::verdict, 3);
    }

    private static void bestWithoutAChoice() {
        check.sentence("Throws NoSuchElementException when no choice was taken");
        check.refuses(board -> { }, "new", Face::best, ELEMENT);
        check.refuses(BUSY, "solved, not taken", Face::best, ELEMENT);
        check.refuses(BUSY.andThen(board -> board.found(2)), "not met", Face::best, ELEMENT);
        check.refuses(FULL.andThen(board -> Check.outcome(() -> board.found(1))), "refused", Face::best, ELEMENT);
        check.leaves(TAKEN, "taken", Face::best, 5);
        check.leaves(AIMLESS, "taken, all factors 0", Face::best, 0);
    }
}
