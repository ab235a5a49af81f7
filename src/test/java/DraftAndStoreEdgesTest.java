import java.util.NoSuchElementException;
import java.util.function.Consumer;

/** The boundary cases of promises 1 to 8, sentence by sentence. */
final class DraftAndStoreEdgesTest {
    private static final Check check = new Check("DraftAndStoreEdgesTest");
    private static final int LOWEST = Integer.MIN_VALUE;
    private static final int HIGHEST = Integer.MAX_VALUE;
    private static final Class<IllegalArgumentException> ARGUMENT = IllegalArgumentException.class;
    private static final Class<IllegalStateException> STATE = IllegalStateException.class;
    private static final Class<NoSuchElementException> ELEMENT = NoSuchElementException.class;

    private static final Consumer<Face> NEW = board -> { };
    private static final Situation BUSY = Situation.BUSY;
    private static final Situation FULL = Situation.open(30, 3);
    private static final Situation TAKEN = Situation.taken(4, 3);
    private static final Situation FULL_AND_TAKEN = Situation.taken(30, 3);

    public static void main(String[] args) {
        newObject();
        termVariables();
        termFactors();
        termTwice();
        clearAll();
        clearAtAnyTime();
        requireKinds();
        requireBounds();
        requireClearsTheDraft();
        requireNumbers();
        requireWhenThereAreThirty();
        requireAfterAChoice();
        requireLooksAtArgumentsFirst();
        objectiveReplaces();
        objectiveWhenFixed();
        constraintsCount();
        constraintNumbers();
        constraintQuestions();
        constraintLooksAtTheNumberFirst();
        closeSets();
        closeOpenOnes();
        closeInTheEnd();
        check.end();
    }

    private static void newObject() {
        check.sentence("No constraints, an empty stack, nothing solved");
        check.same("constraints", new Real().constraints(), 0);
        check.same("stack", new Real().top(-2), 0);
        check.refuses(NEW, "constraint 0", board -> board.constraint(0, -1), ELEMENT);
        check.refuses(NEW, "load 0", board -> board.load(0), ELEMENT);
        check.refuses(NEW, "top", board -> board.top(-1), STATE);
        check.refuses(NEW, "drop", Face::drop, STATE);
        check.refuses(NEW, "add", Face::add, STATE);
        check.refuses(NEW, "saturate", Face::saturate, STATE);
        check.refuses(NEW, "learn", Face::learn, STATE);
        check.refuses(NEW, "least", Face::least, ELEMENT);
        check.refuses(NEW, "value", board -> board.value(0), ELEMENT);
        check.refuses(NEW, "best", Face::best, ELEMENT);
        check.same("verdict", new Real().verdict(), 0);
        Face first = Check.after(FULL);
        check.same("another object does not share", Look.STORE.at(new Real()) + first.constraints(), "030");
    }

    private static void termVariables() {
        check.sentence("Throws IllegalArgumentException when there is no such variable");
        check.same("0", Look.DRAFT.at(Check.after(b -> b.term(0, 7))), "7 x0 >= 0 derived");
        check.same("9", Look.DRAFT.at(Check.after(b -> b.term(9, 7))), "7 x9 >= 0 derived");
        for (int v : new int[] {-1, 10, LOWEST, HIGHEST}) {
            check.refuses(BUSY, "term " + v, board -> board.term(v, 1), ARGUMENT);
        }
        check.refuses(FULL, "with a full store", board -> board.term(10, 1), ARGUMENT);
        check.refuses(TAKEN, "after a choice", board -> board.term(-1, 1), ARGUMENT);
    }

    private static void termFactors() {
        check.sentence("Throws IllegalArgumentException when a is not -99 .. 99");
        check.same("99", Look.DRAFT.at(Check.after(b -> b.term(3, 99))), "99 x3 >= 0 derived");
        check.same("-99", Look.DRAFT.at(Check.after(b -> b.term(3, -99))), "-99 x3 >= 0 derived");
        for (int a : new int[] {100, -100, LOWEST, HIGHEST}) {
            check.refuses(BUSY, "factor " + a, board -> board.term(3, a), ARGUMENT);
            check.refuses(BUSY, "factor of no variable " + a, board -> board.term(10, a), ARGUMENT);
        }
        check.refuses(TAKEN, "after a choice", board -> board.term(3, 100), ARGUMENT);
    }

    private static void termTwice() {
        check.sentence("Factor of variable v in the draft becomes a");
        check.same("not the sum", Look.DRAFT.at(Check.after(b -> Check.draft(b, 3, 5, 3, -2))), "-2 x3 >= 0 derived");
        check.same("0 again", Look.DRAFT.at(Check.after(b -> Check.draft(b, 3, 5, 3, 0))), ">= 0 derived");
        check.same("after a choice", Look.DRAFT.at(Check.after(TAKEN.andThen(b -> b.term(0, 99)))),
                "99 x0 -1 x3 -2 x6 4 x7 -8 x8 >= 0 derived");
    }

    private static void clearAll() {
        check.sentence("All factors of the draft become 0");
        Consumer<Face> ten = board -> {
            for (int v = 0; v < 10; v++) {
                board.term(v, v % 2 == 0 ? 99 : -99);
            }
        };
        check.same("all ten", Look.DRAFT.at(Check.after(ten.andThen(Face::clear))), ">= 0 derived");
        check.same("an empty draft", Look.DRAFT.at(Check.after(Face::clear)), ">= 0 derived");
        check.leaves(NEW, "an empty draft", board -> Check.outcome(board::clear), "nothing");
    }

    private static void clearAtAnyTime() {
        check.sentence("clear() throws nothing, and nothing but the draft changes");
        for (Situation situation : new Situation[] {BUSY, FULL, TAKEN, FULL_AND_TAKEN}) {
            for (Look look : Look.values()) {
                Face board = Check.after(situation);
                check.same("clear", Check.outcome(board::clear), "nothing");
                if (look != Look.DRAFT && look != Look.FIXED) {
                    check.same(look + " is left", look.at(board), look.at(Check.after(situation)));
                }
            }
        }
        check.same("after a choice", Look.DRAFT.at(Check.after(TAKEN.andThen(Face::clear))), ">= 0 derived");
        check.same("with a full store", Look.DRAFT.at(Check.after(FULL.andThen(Face::clear))),
                "nothing1 0 0000000000");
    }

    private static void requireKinds() {
        check.sentence("Throws IllegalArgumentException when kind is not 0 or 1");
        Consumer<Face> drafted = board -> Check.draft(board, 0, 3, 9, -2);
        Face least = Check.after(drafted);
        check.same("0", least.require(0, 1), 0);
        check.same("at least", Look.stored(least, 0), "3 x0 -2 x9 >= 3 given");
        Face most = Check.after(drafted);
        check.same("1", most.require(1, 1), 0);
        check.same("at most", Look.stored(most, 0), "-3 x0 2 x9 >= 2 given");
        for (int kind : new int[] {-1, 2, LOWEST, HIGHEST}) {
            check.refuses(BUSY, "kind " + kind, board -> board.require(kind, 1), ARGUMENT);
        }
    }

    private static void requireBounds() {
        check.sentence("Throws IllegalArgumentException when b is not -9999 .. 9999");
        String[][] due = {{"3 x0 -2 x9 >= 0 given", "3 x0 -2 x9 >= 10001 given"},
            {"-3 x0 2 x9 >= 10002 given", "-3 x0 2 x9 >= 0 given"}};
        for (int kind = 0; kind < 2; kind++) {
            for (int high = 0; high < 2; high++) {
                Face board = Check.draft(new Real(), 0, 3, 9, -2);
                board.require(kind, high == 1 ? 9999 : -9999);
                check.same("kind " + kind + ", bound " + high, Look.stored(board, 0), due[kind][high]);
            }
        }
        for (int b : new int[] {-10000, 10000, LOWEST, HIGHEST}) {
            check.refuses(BUSY, "at least " + b, board -> board.require(0, b), ARGUMENT);
            check.refuses(BUSY, "at most " + b, board -> board.require(1, b), ARGUMENT);
            check.refuses(BUSY, "neither " + b, board -> board.require(2, b), ARGUMENT);
        }
    }

    private static void requireClearsTheDraft() {
        check.sentence("and the draft is cleared");
        for (int kind : new int[] {0, 1}) {
            Consumer<Face> required = BUSY.andThen(board -> board.require(kind, 5));
            check.same("kind " + kind, Look.DRAFT.at(Check.after(required)), ">= 0 derived");
        }
    }

    private static void requireNumbers() {
        check.sentence("comes into the store as a given constraint: its number");
        Face board = new Real();
        for (int k = 0; k < 30; k++) {
            board.term(k % 10, k + 1);
            check.same("number", board.require(k % 2, 0), k);
        }
        check.same("the first", Look.stored(board, 0), "1 x0 >= 0 given");
        check.same("the last", Look.stored(board, 29), "-30 x9 >= 30 given");
    }

    private static void requireWhenThereAreThirty() {
        check.sentence("then IllegalStateException when there are 30");
        check.same("29", Check.after(Situation.open(29, 3)).require(0, 0), 29);
        check.refuses(FULL, "30, at least", board -> board.require(0, 0), STATE);
        check.refuses(FULL, "30, at most", board -> board.require(1, 0), STATE);
        Consumer<Face> derived = board -> {
            for (int k = 0; k < 30; k++) {
                board.contradict(0);
            }
        };
        check.refuses(derived, "30 derived ones", board -> board.require(0, 0), STATE);
    }

    private static void requireAfterAChoice() {
        check.sentence("then IllegalStateException when a choice was taken");
        check.refuses(TAKEN, "at least", board -> board.require(0, 0), STATE);
        check.refuses(TAKEN, "at most", board -> board.require(1, 0), STATE);
        check.refuses(board -> board.found(0), "without an objective", board -> board.require(0, 0), STATE);
        check.refuses(FULL_AND_TAKEN, "and there are 30", board -> board.require(0, 0), STATE);
        Face unmet = Check.after(BUSY);
        check.same("a choice that does not meet all", unmet.found(2), false);
        check.same("was not taken", unmet.require(0, 0), 4);
        Face wrong = Check.after(BUSY);
        check.same("a wrong choice", Check.outcome(() -> wrong.found(-1)), "IllegalArgumentException");
        check.same("was not taken either", wrong.require(0, 0), 4);
    }

    private static void requireLooksAtArgumentsFirst() {
        check.sentence("Throws IllegalArgumentException ..., then IllegalStateException");
        for (Situation situation : new Situation[] {FULL, TAKEN, FULL_AND_TAKEN}) {
            check.refuses(situation, "kind -1 in " + situation, board -> board.require(-1, 0), ARGUMENT);
            check.refuses(situation, "kind 2 in " + situation, board -> board.require(2, 0), ARGUMENT);
            check.refuses(situation, "bound -10000 in " + situation, board -> board.require(0, -10000), ARGUMENT);
            check.refuses(situation, "bound 10000 in " + situation, board -> board.require(1, 10000), ARGUMENT);
        }
    }

    private static void objectiveReplaces() {
        check.sentence("The draft becomes the objective, and is cleared");
        Consumer<Face> replaced = BUSY.andThen(Face::objective);
        check.same("the draft", Look.DRAFT.at(Check.after(replaced)), ">= 0 derived");
        Face board = Check.after(replaced);
        board.found(1);
        check.same("nothing of the earlier one is left", Look.stored(board, 4), "1 x3 2 x6 -4 x7 8 x8 >= 5 derived");
        Face empty = Check.after(replaced.andThen(Face::objective));
        empty.found(1);
        check.same("an empty draft: all factors 0 again", empty.constraints(), 4);
        check.same("and so the verdict", empty.verdict(), 3);
        Consumer<Face> full = FULL.andThen(Face::objective);
        check.same("with a full store", Look.SOLVED_ANEW.at(Check.after(full)).split(" ")[1], "-11");
    }

    private static void objectiveWhenFixed() {
        check.sentence("Throws IllegalStateException when that is fixed");
        check.refuses(TAKEN, "fixed", Face::objective, STATE);
        check.refuses(FULL_AND_TAKEN, "fixed, with a full store", Face::objective, STATE);
        check.refuses(board -> board.found(1023), "fixed, with all factors 0", Face::objective, STATE);
        check.refuses(TAKEN.andThen(Face::clear), "fixed, with an empty draft", Face::objective, STATE);
        Face unmet = Check.after(BUSY);
        unmet.found(2);
        check.same("not fixed", Check.outcome(unmet::objective), "nothing");
    }

    private static void constraintsCount() {
        check.sentence("How many constraints the store has");
        check.leaves(NEW, "none", Face::constraints, 0);
        check.leaves(board -> board.require(0, 0), "one", Face::constraints, 1);
        check.leaves(Situation.open(29, 3), "29", Face::constraints, 29);
        check.leaves(FULL, "30", Face::constraints, 30);
        check.leaves(FULL_AND_TAKEN, "30, after a choice", Face::constraints, 30);
        Face refused = Check.after(FULL);
        Check.outcome(() -> refused.require(0, 0));
        Check.outcome(refused::learn);
        check.same("30 after refusals", refused.constraints(), 30);
    }

    private static void constraintNumbers() {
        check.sentence("Throws NoSuchElementException when there is no such constraint");
        check.leaves(BUSY, "0", board -> board.constraint(0, -1), 2);
        check.leaves(BUSY, "the last", board -> board.constraint(3, -2), 0);
        for (int k : new int[] {-1, 4, 29, 30, 31, LOWEST, HIGHEST}) {
            check.refuses(BUSY, "constraint " + k, board -> board.constraint(k, 0), ELEMENT);
        }
        check.leaves(FULL, "29", board -> board.constraint(29, 9), -29);
        check.refuses(FULL, "30", board -> board.constraint(30, 9), ELEMENT);
        check.refuses(NEW, "0 of none", board -> board.constraint(0, 0), ELEMENT);
        Consumer<Face> failed = board -> Check.draft(board, 0, 1).contradict(1);
        check.refuses(failed, "what was not shown is not there", board -> board.constraint(0, 0), ELEMENT);
    }

    private static void constraintQuestions() {
        check.sentence("then IllegalArgumentException for another v");
        int[] due = {1, 2, 3, -2, 0, 0, 0, 0, 0, 0, 0, 1};
        for (int v = -2; v < 10; v++) {
            int asked = v;
            check.leaves(BUSY, "v " + v, board -> board.constraint(0, asked), due[v + 2]);
        }
        for (int v : new int[] {-3, 10, LOWEST, HIGHEST}) {
            check.refuses(BUSY, "v " + v, board -> board.constraint(0, v), ARGUMENT);
            check.refuses(FULL, "v " + v + " of the last", board -> board.constraint(29, v), ARGUMENT);
        }
        check.sentence("for v = -2: 1 if it was given, else 0");
        check.same("given", Check.after(TAKEN).constraint(1, -2), 1);
        check.same("derived", Check.after(TAKEN).constraint(2, -2), 0);
    }

    private static void constraintLooksAtTheNumberFirst() {
        check.sentence("Throws NoSuchElementException ..., then IllegalArgumentException");
        for (int k : new int[] {-1, 4, HIGHEST}) {
            for (int v : new int[] {-3, 10, HIGHEST}) {
                check.refuses(BUSY, "constraint " + k + ", " + v, board -> board.constraint(k, v), ELEMENT);
            }
        }
        check.refuses(NEW, "constraint 0, 10 of none", board -> board.constraint(0, 10), ELEMENT);
    }

    private static void closeSets() {
        check.sentence("Throws IllegalArgumentException when known or values is not 0 .. 1023");
        check.leaves(NEW, "0, 0", board -> board.close(0, 0), 0);
        check.leaves(NEW, "1023, 0", board -> board.close(1023, 0), 1023 * 1024);
        check.leaves(NEW, "1023, 1023", board -> board.close(1023, 1023), 1023 * 1024 + 1023);
        check.leaves(NEW, "512, 512", board -> board.close(512, 512), 512 * 1024 + 512);
        for (int set : new int[] {-1, 1024, LOWEST, HIGHEST}) {
            check.refuses(BUSY, "known " + set, board -> board.close(set, 0), ARGUMENT);
            check.refuses(BUSY, "values " + set, board -> board.close(0, set), ARGUMENT);
            check.refuses(BUSY, "both " + set, board -> board.close(set, set), ARGUMENT);
            check.refuses(BUSY, "values with all known " + set, board -> board.close(1023, set), ARGUMENT);
        }
        Consumer<Face> hopeless = board -> board.require(0, 1);
        check.refuses(hopeless, "wrong sets with a conflict", board -> board.close(1024, 0), ARGUMENT);
    }

    private static void closeOpenOnes() {
        check.sentence("the variables of the set known (bit v) are as their bits in values say, the others open");
        check.leaves(NEW, "values of open ones", board -> board.close(0, 1023), 0);
        check.leaves(NEW, "values of all but one", board -> board.close(1023 - 8, 1023), 1015 * 1024 + 1015);
        Consumer<Face> implied = board -> Check.draft(board, 0, -1, 1, 1).require(0, 0);
        check.same("an open one is not false", Check.after(implied).close(1, 1), 3 * 1024 + 3);
        check.same("an open one is not true", Check.after(implied).close(2, 1), 3 * 1024);
        check.same("bit 9", Check.after(b -> Check.draft(b, 9, -1, 0, 1).require(0, 0)).close(512, 512), 513 * 1024 + 513);
    }

    private static void closeInTheEnd() {
        check.sentence("-1 when there is a conflict in the end");
        Consumer<Face> chain = board -> {
            for (int v = 8; v >= 0; v--) {
                Check.draft(board, v, -1, v + 1, 1).require(0, 0);
            }
            Check.draft(board, 9, -1).require(0, 0);
        };
        check.leaves(chain, "all ten forced", board -> board.close(0, 0), 1023 * 1024);
        check.leaves(chain, "a conflict at once", board -> board.close(512, 512), -1);
        check.leaves(chain, "a conflict at the end of the chain", board -> board.close(1, 1), -1);
        Consumer<Face> lastOfAll = board -> {
            for (int v = 8; v >= 0; v--) {
                Check.draft(board, v, -1, v + 1, 1).require(0, 0);
            }
            for (int v = 0; v < 10; v++) {
                board.term(v, -1);
            }
            board.require(0, -9);
        };
        check.leaves(lastOfAll, "a conflict when the tenth is forced", board -> board.close(1, 1), -1);
        check.leaves(lastOfAll, "none with nine", board -> board.close(2, 2), 1023 * 1024 + 1022);
        check.leaves(board -> board.require(0, 1), "a void one, all known", board -> board.close(1023, 0), -1);
        check.leaves(FULL, "thirty", board -> board.close(48, 48), -1);
    }
}
