import java.util.function.Consumer;

/** The boundary cases in the sections "What it is" and "Terms" of the document, sentence by sentence. */
final class TermsEdgesTest {
    private static final Check check = new Check("TermsEdgesTest");
    private static final int MILLION = 1000000;
    private static final Class<IllegalStateException> STATE = IllegalStateException.class;

    public static void main(String[] args) {
        variables();
        weightAboveZero();
        weightBelowZero();
        weightZero();
        countedAtLeastTheDegree();
        degreeNotBelowZero();
        voidConstraints();
        draftAtFirst();
        draftFactors();
        normalizedAtLeastZero();
        storeOfThirty();
        givenOrDerived();
        objectiveAtFirst();
        objectiveFixed();
        bestIsOfTheLatest();
        conflictBelowZero();
        forcedAboveTheSlack();
        closingInAnyOrder();
        stackOfSix();
        addOpposedWeights();
        addAtLeastZero();
        timesKeepsSigns();
        divideRoundsUp();
        saturateToTheDegree();
        weakenNotBelowZero();
        check.end();
    }

    /** A board with "the factors, at least b" alone in its store. */
    private static Face with(int b, int... pairs) {
        Face board = new Real();
        Check.draft(board, pairs).require(0, b);
        return board;
    }

    /** The same, with the constraint on the stack too. */
    private static Face loaded(int b, int... pairs) {
        Face board = with(b, pairs);
        board.load(0);
        return board;
    }

    /** What comes of the topmost when the calls have been made on the board. */
    private static String topAfter(Face board, Consumer<Face> calls) {
        calls.accept(board);
        return Look.top(board);
    }

    private static void variables() {
        check.sentence("VARIABLES 0 .. 9, each FALSE (0) or TRUE (1)");
        for (int v : new int[] {0, 9}) {
            Face board = with(1, v, 1);
            check.same("solve " + v, board.solve(), 1);
            check.same("true " + v, board.value(v), 1);
            check.same("false " + (9 - v), board.value(9 - v), 0);
            check.same("close " + v, board.close(0, 0), (1024 + 1) << v);
            check.same("others true alone", board.found(1023 - (1 << v)), false);
            check.same("true alone", board.found(1 << v), true);
        }
    }

    private static void weightAboveZero() {
        check.sentence("w above 0 counts w if the variable is true");
        for (int v = 0; v < 10; v++) {
            check.same("1 true", with(1, v, 1).found(1 << v), true);
            check.same("1 false", with(1, v, 1).found(1023 - (1 << v)), false);
            check.same("99 true, of 99", with(99, v, 99).found(1 << v), true);
            check.same("99 true, of 100", with(100, v, 99).found(1 << v), false);
        }
    }

    private static void weightBelowZero() {
        check.sentence("w below 0 counts -w if it is false");
        for (int v = 0; v < 10; v++) {
            check.same("-1 false", with(0, v, -1).found(1023 - (1 << v)), true);
            check.same("-1 true", with(0, v, -1).found(1 << v), false);
            check.same("-99 false, of 99", with(0, v, -99).found(0), true);
            check.same("-99 false, of 100", with(1, v, -99).found(0), false);
        }
    }

    private static void weightZero() {
        check.sentence("0: it does not occur");
        Face board = with(2, 3, 2);
        check.same("weight", board.constraint(0, 4), 0);
        check.same("counts nothing if true", board.found(1023 - 8), false);
        check.same("counts nothing if false", board.found(0), false);
        check.same("forces nothing", board.close(0, 0), (1024 + 1) * 8);
        check.same("asks for nothing", board.found(8), true);
        check.same("nor for anything else", board.found(1023), true);
    }

    private static void countedAtLeastTheDegree() {
        check.sentence("what is counted must be at least d");
        int[] pairs = {0, 4, 1, 2, 2, -1};
        check.same("counted 5 of 4", with(3, pairs).found(1), true);
        check.same("counted 5 of 5", with(4, pairs).found(1), true);
        check.same("counted 5 of 6", with(5, pairs).found(1), false);
        check.same("solved with 7 of 7", with(6, pairs).solve(), 1);
        check.same("solved with 7 of 8", with(7, pairs).solve(), 0);
    }

    private static void degreeNotBelowZero() {
        check.sentence("a DEGREE d, not below 0");
        Face board = with(-9999, 0, 1);
        check.same("given", board.constraint(0, -1), 0);
        check.same("met by all, if nothing counts", board.found(0), true);
        Face axioms = new Real();
        axioms.axiom(0, true);
        axioms.axiom(0, false);
        axioms.add();
        check.same("of a sum", axioms.top(-1), 0);
        axioms.weaken(0);
        check.same("of a weakened one", axioms.top(-1), 0);
    }

    private static void voidConstraints() {
        check.sentence("A constraint is VOID if no choice meets it: its SIZES add up to less than d");
        int[] pairs = {0, 2, 5, -3, 9, 4};
        check.same("sizes 9, degree 9", with(6, pairs).verdict(), 0);
        check.same("sizes 9, degree 10", with(7, pairs).verdict(), 1);
        check.same("no sizes, degree 0", with(0).verdict(), 0);
        check.same("no sizes, degree 1", with(1).verdict(), 1);
        Face large = new Real();
        Check.draft(large, 4, -1, 5, -1).require(0, -1);
        large.load(0);
        large.times(1000);
        large.times(1000);
        large.learn();
        check.same("sizes two million, degree a million", large.verdict(), 0);
        Face ten = tenMillions();
        ten.learn();
        check.same("sizes ten million, degree a million", ten.verdict(), 0);
        check.same("none of them true", ten.found(0), false);
        check.same("one of them true", ten.found(512), true);
        check.same("closing without the others", ten.close(511, 0), 1023 * 1024 + 512);
    }

    /** Ten weights of 1000000 with a degree of 1000000 on the stack. */
    private static Face tenMillions() {
        Face board = new Real();
        for (int v = 0; v < 10; v++) {
            board.term(v, 1);
        }
        board.require(0, 1);
        board.load(0);
        board.times(1000);
        board.times(1000);
        return board;
    }

    private static void draftAtFirst() {
        check.sentence("a factor -99 .. 99, 0 at first");
        check.same("at least 0", Look.stored(with(0), 0), ">= 0 given");
        check.same("as an objective", Check.after(Face::objective).solve(), 1);
        check.same("contradicted", Look.DRAFT.at(new Real()), ">= 0 derived");
    }

    private static void draftFactors() {
        check.sentence("THE DRAFT has for each variable a factor -99 .. 99");
        Face board = new Real();
        for (int v = 0; v < 10; v++) {
            board.term(v, v % 2 == 0 ? 99 : -99);
        }
        board.require(0, 0);
        check.same("all at the edge", Look.stored(board, 0),
                "99 x0 -99 x1 99 x2 -99 x3 99 x4 -99 x5 99 x6 -99 x7 99 x8 -99 x9 >= 495 given");
    }

    private static void normalizedAtLeastZero() {
        check.sentence("the degree is b and the sizes of all factors below 0 together, but at least 0");
        int[] pairs = {0, 7, 3, -4, 9, -2};
        String weights = "7 x0 -4 x3 -2 x9 >= ";
        check.same("6 and -5", Look.stored(with(-5, pairs), 0), weights + "1 given");
        check.same("6 and -6", Look.stored(with(-6, pairs), 0), weights + "0 given");
        check.same("6 and -7", Look.stored(with(-7, pairs), 0), weights + "0 given");
        check.same("6 and -9999", Look.stored(with(-9999, pairs), 0), weights + "0 given");
        check.same("6 and 9999", Look.stored(with(9999, pairs), 0), weights + "10005 given");
        check.same("0 and 0", Look.stored(with(0, 1, 3), 0), "3 x1 >= 0 given");
        check.same("0 and -1", Look.stored(with(-1, 1, 3), 0), "3 x1 >= 0 given");
        check.same("0 and 1", Look.stored(with(1, 1, 3), 0), "3 x1 >= 1 given");
    }

    private static void storeOfThirty() {
        check.sentence("THE STORE has constraints 0, 1, .., at most 30");
        Situation almost = Situation.open(29, 2);
        check.same("the 30th by require", Check.after(almost).require(0, 0), 29);
        check.same("the 30th by learn", Check.after(almost).learn(), 29);
        check.same("the 30th by contradict", Check.after(almost).contradict(-9999), 29);
        Face found = Check.after(almost);
        check.same("the 30th by found", found.found(1), true);
        check.same("the 30th by found counts", found.constraints(), 30);
        check.same("the last has a number", found.constraint(29, -2), 0);
        Situation full = Situation.open(30, 2);
        check.refuses(full, "the 31st by require", board -> board.require(0, 0), STATE);
        check.refuses(full, "the 31st by learn", Face::learn, STATE);
        check.refuses(full, "the 31st by contradict", board -> board.contradict(-9999), STATE);
        check.refuses(full, "the 31st by found", board -> board.found(1), STATE);
        Consumer<Face> reallyFull = Situation.taken(30, 2);
        check.refuses(reallyFull, "the 31st by learn, after a choice", Face::learn, STATE);
        check.refuses(reallyFull, "the 31st by contradict, after a choice", board -> board.contradict(0), STATE);
        check.refuses(reallyFull, "the 31st by found, after a choice", board -> board.found(2), STATE);
    }

    private static void givenOrDerived() {
        check.sentence("GIVEN or DERIVED");
        Face board = new Real();
        Check.draft(board, 0, 1).objective();
        board.require(0, 0);
        board.require(1, 0);
        board.load(0);
        board.learn();
        board.contradict(0);
        board.found(1);
        StringBuilder kinds = new StringBuilder();
        for (int k = 0; k < 5; k++) {
            kinds.append(board.constraint(k, -2));
        }
        check.same("require twice, learn, contradict, found", kinds.toString(), "11000");
    }

    private static void objectiveAtFirst() {
        check.sentence("THE OBJECTIVE has a factor for each variable, all 0 at first");
        Face board = new Real();
        board.solve();
        check.same("solved", Look.solution(board), "0 0000000000");
        board.found(1023);
        check.same("value", board.best(), 0);
        check.same("no bound", board.constraints(), 0);
        check.same("verdict", board.verdict(), 3);
    }

    private static void objectiveFixed() {
        check.sentence("It is FIXED when a choice has been taken");
        Consumer<Face> unmet = board -> {
            Check.draft(board, 0, 1).require(0, 1);
            Check.draft(board, 1, 1).objective();
            board.found(2);
            Check.draft(board, 2, 1);
        };
        check.same("not by one that does not meet all", Check.outcome(() -> Check.after(unmet).objective()), "nothing");
        Consumer<Face> wrong = board -> Check.outcome(() -> board.found(1024));
        check.same("not by a wrong one", Check.outcome(() -> Check.after(wrong).objective()), "nothing");
        Consumer<Face> solved = Face::solve;
        check.same("not by solving", Check.outcome(() -> Check.after(solved).objective()), "nothing");
        check.same("not by a full store", Check.outcome(() -> Check.withFullStore().objective()), "nothing");
        check.refuses(Situation.taken(4, 3), "by one that is taken", Face::objective, STATE);
        check.refuses(board -> board.found(0), "with all factors 0", Face::objective, STATE);
    }

    private static void bestIsOfTheLatest() {
        check.sentence("THE BEST is the value of the choice taken latest");
        Face board = new Real();
        Check.draft(board, 0, 5, 1, -3).objective();
        board.found(1);
        check.same("the first", board.best(), 5);
        board.found(3);
        check.same("the second", board.best(), 2);
        check.same("one not taken", board.found(1), false);
        check.same("is not the best", board.best(), 2);
        board.found(2);
        check.same("the third", board.best(), -3);
    }

    private static void conflictBelowZero() {
        check.sentence("A constraint with a slack below 0 is in CONFLICT");
        Face board = with(0, 0, 3, 1, 2, 2, -5);
        check.same("slack 0", board.close(7, 7), 7 * 1024 + 7);
        check.same("slack -2", board.close(7, 5), -1);
        check.same("slack -3", board.close(7, 6), -1);
        check.same("slack -1", with(1, 0, 3, 1, 2, 2, -5).close(7, 7), -1);
        check.same("slack 0, nothing known", with(5, 0, 3, 1, 2, 2, -5).close(0, 0), 7 * 1024 + 3);
        check.same("slack -1, nothing known", with(6, 0, 3, 1, 2, 2, -5).close(0, 0), -1);
        check.same("no sizes, slack 0", with(0).close(0, 0), 0);
        check.same("no sizes, slack -1", with(1).close(0, 0), -1);
    }

    private static void forcedAboveTheSlack() {
        check.sentence("FORCES each open variable whose size is greater than its slack to be what is counted");
        int[] pairs = {0, 5, 1, -4, 2, 3, 3, -2};
        check.same("slack 5", with(3, pairs).close(0, 0), 0);
        check.same("slack 4", with(4, pairs).close(0, 0), 1 * 1024 + 1);
        check.same("slack 3", with(5, pairs).close(0, 0), 3 * 1024 + 1);
        check.same("slack 2", with(6, pairs).close(0, 0), 7 * 1024 + 5);
        check.same("slack 1", with(7, pairs).close(0, 0), 15 * 1024 + 5);
        check.same("slack 0", with(8, pairs).close(0, 0), 15 * 1024 + 5);
        check.same("slack 0: size 1 too", with(1, 9, 1).close(0, 0), 512 * 1024 + 512);
        check.same("slack 0: size 1 false too", with(0, 9, -1).close(0, 0), 512 * 1024);
        check.same("slack 1: not size 1", with(0, 9, 1).close(0, 0), 0);
        check.same("slack 0: not one that does not occur", with(0).close(0, 0), 0);
        check.same("only open ones", with(4, pairs).close(14, 4), 15 * 1024 + 5);
    }

    private static void closingInAnyOrder() {
        check.sentence("It comes to the same, in which order this is done; also whether there is a conflict in the end");
        int[][] chain = {{0, 0, -1, 1, 1}, {0, 1, -1, 2, 1}, {0, 2, -1, 3, 1}, {-1, 0, -1, 3, -1}};
        int[][] orders = {
            {0, 1, 2, 3}, {3, 2, 1, 0}, {1, 0, 3, 2}, {2, 3, 0, 1}, {3, 0, 1, 2}, {2, 1, 3, 0}, {0, 2, 1, 3}, {1, 3, 2, 0}};
        for (int[] order : orders) {
            Face board = new Real();
            for (int k : order) {
                int[] row = chain[k];
                Check.draft(board, row[1], row[2], row[3], row[4]).require(0, row[0]);
            }
            check.same("a conflict", board.close(1, 1), -1);
            check.same("none, from the second", board.close(2, 2), 15 * 1024 + 14);
            check.same("none, from the last", board.close(8, 8), 9 * 1024 + 8);
            check.same("none, from the last but one", board.close(4, 0), 7 * 1024);
        }
    }

    private static void stackOfSix() {
        check.sentence("THE STACK has at most 6 constraints");
        Face board = Check.after(Situation.open(4, 5));
        board.load(3);
        check.same("the sixth by load", board.top(-2), 6);
        Face other = Check.after(Situation.open(4, 5));
        other.axiom(9, false);
        check.same("the sixth by axiom", other.top(-2), 6);
        check.same("the sixth is on top", Look.top(other), "-1 x9 >= 0");
        Situation full = Situation.open(4, 6);
        check.refuses(full, "the seventh by load", b -> b.load(0), STATE);
        check.refuses(full, "the seventh by axiom", b -> b.axiom(0, true), STATE);
        other.add();
        other.axiom(0, true);
        check.same("the sixth again after add", other.top(-2), 6);
        other.learn();
        other.axiom(1, true);
        check.same("the sixth again after learn", other.top(-2), 6);
        other.drop();
        other.load(0);
        check.same("the sixth again after drop", other.top(-2), 6);
    }

    /** "The factors, at least b" of the second added to that of the first. */
    private static String sum(int b, int[] pairs, int otherB, int... otherPairs) {
        Face board = loaded(b, pairs);
        board.load(Check.draft(board, otherPairs).require(0, otherB));
        board.add();
        return Look.top(board);
    }

    private static int[] pairs(int... pairs) {
        return pairs;
    }

    private static void addOpposedWeights() {
        check.sentence("less, for each variable with one weight above and one below 0, the lesser of the two sizes");
        check.same("the first is less", sum(9, pairs(0, 4), 3, 0, -6), "-2 x0 >= 14");
        check.same("the second is less", sum(9, pairs(0, 6), 5, 0, -4), "2 x0 >= 14");
        check.same("both the same", sum(9, pairs(0, 6), 3, 0, -6), ">= 12");
        check.same("both 1", sum(9, pairs(0, 1), 3, 0, -1), ">= 12");
        check.same("both 1, below 0 first", sum(3, pairs(0, -1), 9, 0, 1), ">= 12");
        check.same("below 0 first", sum(3, pairs(0, -6), 9, 0, 4), "-2 x0 >= 14");
        check.same("below 0 first, and less", sum(5, pairs(0, -4), 9, 0, 6), "2 x0 >= 14");
        check.same("both above 0", sum(9, pairs(0, 4), 3, 0, 6), "10 x0 >= 12");
        check.same("both below 0", sum(9, pairs(0, -4), 3, 0, -6), "-10 x0 >= 22");
        check.same("0 and above", sum(9, pairs(), 3, 0, 6), "6 x0 >= 12");
        check.same("below and 0", sum(9, pairs(0, -6), 3), "-6 x0 >= 18");
        check.same("each variable", sum(9, pairs(0, 4, 5, -3, 9, 1), 3, 0, -6, 5, 1, 9, -1), "-2 x0 -2 x5 >= 16");
    }

    private static void addAtLeastZero() {
        check.sentence("To ADD two: ... but at least 0");
        check.same("just 0", sum(1, pairs(0, 3), -3, 0, -5), "-2 x0 >= 0");
        check.same("1 above 0", sum(2, pairs(0, 3), -3, 0, -5), "-2 x0 >= 1");
        check.same("1 below 0", sum(0, pairs(0, 3), -3, 0, -5), "-2 x0 >= 0");
        check.same("far below 0", sum(0, pairs(0, 99, 1, 99), -198, 0, -99, 1, -99), ">= 0");
        check.same("only in the end", sum(1, pairs(0, 9, 1, 1), -9, 0, -9, 2, 50), "1 x1 50 x2 >= 0");
    }

    private static void timesKeepsSigns() {
        check.sentence("TIMES m: weights and degree m times");
        check.same("1", topAfter(loaded(-2, 0, 3, 9, -4), b -> b.times(1)), "3 x0 -4 x9 >= 2");
        check.same("1000", topAfter(loaded(-2, 0, 3, 9, -4), b -> b.times(1000)), "3000 x0 -4000 x9 >= 2000");
        check.same("a degree of 0", topAfter(loaded(-4, 0, 3, 9, -4), b -> b.times(1000)), "3000 x0 -4000 x9 >= 0");
        check.same("no weights", topAfter(loaded(7), b -> b.times(1000)), ">= 7000");
    }

    private static void divideRoundsUp() {
        check.sentence("each size, and the degree, divided by m and rounded up (signs stay)");
        int[] sizes = {0, 9, 1, 10, 2, 11, 3, -9, 4, -10, 5, -11, 6, 1, 7, -1};
        check.same("by 10, degree 31", topAfter(loaded(0, sizes), b -> b.divide(10)),
                "1 x0 1 x1 2 x2 -1 x3 -1 x4 -2 x5 1 x6 -1 x7 >= 4");
        check.same("by 10, degree 30", topAfter(loaded(-1, sizes), b -> b.divide(10)),
                "1 x0 1 x1 2 x2 -1 x3 -1 x4 -2 x5 1 x6 -1 x7 >= 3");
        check.same("by 1", topAfter(loaded(-1, sizes), b -> b.divide(1)),
                "9 x0 10 x1 11 x2 -9 x3 -10 x4 -11 x5 1 x6 -1 x7 >= 30");
        check.same("0 stays 0", topAfter(loaded(-31, sizes), b -> b.divide(MILLION)),
                "1 x0 1 x1 1 x2 -1 x3 -1 x4 -1 x5 1 x6 -1 x7 >= 0");
        Face board = tenMillions();
        board.divide(MILLION);
        check.same("a million by a million", board.top(0) + board.top(9) + board.top(-1), 3);
        Face almost = tenMillions();
        almost.divide(MILLION - 1);
        check.same("a million by one less", almost.top(0) + almost.top(9) + almost.top(-1), 6);
    }

    private static void saturateToTheDegree() {
        check.sentence("SATURATE: sizes greater than d become d");
        int[] sizes = {0, 4, 1, 5, 2, 6, 3, -4, 4, -5, 5, -6, 6, 99, 7, -99};
        check.same("degree 5", topAfter(loaded(-109, sizes), Face::saturate),
                "4 x0 5 x1 5 x2 -4 x3 -5 x4 -5 x5 5 x6 -5 x7 >= 5");
        check.same("degree 1", topAfter(loaded(-113, sizes), Face::saturate),
                "1 x0 1 x1 1 x2 -1 x3 -1 x4 -1 x5 1 x6 -1 x7 >= 1");
        check.same("degree 0", topAfter(loaded(-114, sizes), Face::saturate), ">= 0");
        check.same("degree 99", topAfter(loaded(-15, sizes), Face::saturate),
                "4 x0 5 x1 6 x2 -4 x3 -5 x4 -6 x5 99 x6 -99 x7 >= 99");
        check.same("degree 98", topAfter(loaded(-16, sizes), Face::saturate),
                "4 x0 5 x1 6 x2 -4 x3 -5 x4 -6 x5 98 x6 -98 x7 >= 98");
    }

    private static void weakenNotBelowZero() {
        check.sentence("WEAKEN a variable: its size is taken from d (but not below 0), its weight is 0");
        int[] factors = {0, 4, 9, -4, 5, 1};
        check.same("size 4 of 5", topAfter(loaded(1, factors), b -> b.weaken(0)), "1 x5 -4 x9 >= 1");
        check.same("size 4 of 4", topAfter(loaded(0, factors), b -> b.weaken(0)), "1 x5 -4 x9 >= 0");
        check.same("size 4 of 3", topAfter(loaded(-1, factors), b -> b.weaken(0)), "1 x5 -4 x9 >= 0");
        check.same("size 4 of 0", topAfter(loaded(-4, factors), b -> b.weaken(0)), "1 x5 -4 x9 >= 0");
        check.same("size -4 of 5", topAfter(loaded(1, factors), b -> b.weaken(9)), "4 x0 1 x5 >= 1");
        check.same("size -4 of 4", topAfter(loaded(0, factors), b -> b.weaken(9)), "4 x0 1 x5 >= 0");
        check.same("size -4 of 3", topAfter(loaded(-1, factors), b -> b.weaken(9)), "4 x0 1 x5 >= 0");
        check.same("no size", topAfter(loaded(-1, factors), b -> b.weaken(1)), "4 x0 1 x5 -4 x9 >= 3");
        check.same("twice", topAfter(loaded(1, factors), b -> {
            b.weaken(5);
            b.weaken(5);
        }), "4 x0 -4 x9 >= 4");
    }
}
