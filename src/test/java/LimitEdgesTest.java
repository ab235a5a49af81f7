import java.util.function.Consumer;

/** The limit of sizes and degrees: what just fits, what is just too large, and when that is looked at. */
final class LimitEdgesTest {
    private static final Check check = new Check("LimitEdgesTest");
    private static final int MILLION = 1000000;
    private static final Class<IllegalArgumentException> ARGUMENT = IllegalArgumentException.class;
    private static final Class<IllegalStateException> STATE = IllegalStateException.class;
    private static final Class<ArithmeticException> ARITHMETIC = ArithmeticException.class;

    public static void main(String[] args) {
        sizesByTimes();
        sizesByAdd();
        degreesByTimes();
        degreesByAdd();
        sumsThatComeDown();
        lookedAtLast();
        theLargestInUse();
        check.end();
    }

    /** Puts a constraint on the stack in which variable v alone occurs, with this weight and degree 0. */
    private static Consumer<Face> weight(int v, int weight) {
        int size = Math.abs(weight);
        Consumer<Face> one = board -> board.axiom(v, weight > 0);
        if (size < 1000) {
            return one.andThen(board -> board.times(size));
        }
        Consumer<Face> thousands = one.andThen(board -> board.times(size / 1000)).andThen(board -> board.times(1000));
        if (size % 1000 == 0) {
            return thousands;
        }
        return thousands.andThen(one).andThen(board -> board.times(size % 1000)).andThen(Face::add);
    }

    /** Puts a constraint on the stack in which no variable occurs, with this degree. */
    private static Consumer<Face> degree(int d) {
        return board -> board.load(board.require(0, d));
    }

    private static String topAfter(Consumer<Face> before, Consumer<Face> call) {
        return Look.top(Check.after(before.andThen(call)));
    }

    private static void sizesByTimes() {
        check.sentence("All sizes and degrees are at most 1000000: sizes, by times");
        for (int v = 0; v < 10; v++) {
            check.same("1000 times 1000", topAfter(weight(v, 1000), b -> b.times(1000)), "1000000 x" + v + " >= 0");
            check.same("1000 times -1000", topAfter(weight(v, -1000), b -> b.times(1000)), "-1000000 x" + v + " >= 0");
            check.refuses(weight(v, 9901), "101 times 9901", b -> b.times(101), ARITHMETIC);
            check.refuses(weight(v, -9901), "101 times -9901", b -> b.times(101), ARITHMETIC);
        }
        check.same("once a million", topAfter(weight(0, MILLION), b -> b.times(1)), "1000000 x0 >= 0");
        check.refuses(weight(0, MILLION), "twice a million", b -> b.times(2), ARITHMETIC);
        check.refuses(weight(0, MILLION), "a thousand million", b -> b.times(1000), ARITHMETIC);
        check.refuses(weight(0, -MILLION), "minus a thousand million", b -> b.times(1000), ARITHMETIC);
        check.refuses(weight(9, 1001), "1000 times 1001", b -> b.times(1000), ARITHMETIC);
    }

    private static void sizesByAdd() {
        check.sentence("All sizes and degrees are at most 1000000: sizes, by add");
        for (int v = 0; v < 10; v++) {
            check.same("999999 and 1", topAfter(weight(v, 999999).andThen(weight(v, 1)), Face::add),
                    "1000000 x" + v + " >= 0");
            check.same("-999999 and -1", topAfter(weight(v, -999999).andThen(weight(v, -1)), Face::add),
                    "-1000000 x" + v + " >= 0");
            check.refuses(weight(v, MILLION).andThen(weight(v, 1)), "1000000 and 1", Face::add, ARITHMETIC);
            check.refuses(weight(v, -1).andThen(weight(v, -MILLION)), "-1 and -1000000", Face::add, ARITHMETIC);
        }
        check.refuses(weight(4, MILLION).andThen(weight(4, MILLION)), "two millions", Face::add, ARITHMETIC);
        check.same("a million and another variable",
                topAfter(weight(4, MILLION).andThen(weight(5, -MILLION)), Face::add), "1000000 x4 -1000000 x5 >= 0");
    }

    private static void degreesByTimes() {
        check.sentence("All sizes and degrees are at most 1000000: degrees, by times");
        check.same("1000 times 1000", topAfter(degree(1000), b -> b.times(1000)), ">= 1000000");
        check.same("125 times 8000", topAfter(degree(8000), b -> b.times(125)), ">= 1000000");
        check.refuses(degree(9901), "101 times 9901", b -> b.times(101), ARITHMETIC);
        check.same("100 times 9901", topAfter(degree(9901), b -> b.times(100)), ">= 990100");
        check.refuses(degree(9999), "1000 times 9999", b -> b.times(1000), ARITHMETIC);
        Consumer<Face> million = degree(1000).andThen(b -> b.times(1000));
        check.same("once a million", topAfter(million, b -> b.times(1)), ">= 1000000");
        check.refuses(million, "a thousand million", b -> b.times(1000), ARITHMETIC);
    }

    private static void degreesByAdd() {
        check.sentence("All sizes and degrees are at most 1000000: degrees, by add");
        Consumer<Face> million = degree(1000).andThen(b -> b.times(1000));
        Consumer<Face> almost = degree(9999).andThen(b -> b.times(100)).andThen(degree(99)).andThen(Face::add);
        check.same("999999 and 1", topAfter(almost.andThen(degree(1)), Face::add), ">= 1000000");
        check.refuses(almost.andThen(degree(2)), "999999 and 2", Face::add, ARITHMETIC);
        check.same("1000000 and 0", topAfter(million.andThen(degree(0)), Face::add), ">= 1000000");
        check.refuses(million.andThen(degree(1)), "1000000 and 1", Face::add, ARITHMETIC);
        check.refuses(degree(1).andThen(million), "1 and 1000000", Face::add, ARITHMETIC);
        check.refuses(million.andThen(million), "two millions", Face::add, ARITHMETIC);
    }

    /** Puts a constraint on the stack with a size of 1000000 and that degree, for a factor of 1 or -1. */
    private static void pushBoth(Face board, int v, int factor) {
        int b = factor > 0 ? factor : 0;
        board.load(Check.draft(board, v, factor).require(0, b));
        board.times(1000);
        board.times(1000);
    }

    private static void sumsThatComeDown() {
        check.sentence("ArithmeticException is thrown for a constraint with a size or degree above 1000000: it is the sum");
        Consumer<Face> opposed = board -> {
            pushBoth(board, 3, 1);
            pushBoth(board, 3, -1);
        };
        check.same("before", Look.top(Check.after(opposed)), "-1000000 x3 >= 1000000");
        check.same("two millions less one", topAfter(opposed, Face::add), ">= 1000000");
        Consumer<Face> justTooLarge = board -> {
            pushBoth(board, 3, 1);
            board.load(Check.draft(board, 3, -1, 4, 1).require(0, 1));
        };
        check.same("a million and 2", Look.top(Check.after(justTooLarge)), "-1 x3 1 x4 >= 2");
        check.refuses(justTooLarge, "a million and 2, less 1", Face::add, ARITHMETIC);
        Consumer<Face> justFits = board -> {
            pushBoth(board, 3, 1);
            board.load(Check.draft(board, 3, -1, 4, 1).require(0, 0));
        };
        check.same("a million and 1, less 1", topAfter(justFits, Face::add), "999999 x3 1 x4 >= 1000000");
        check.same("sizes of a million that go off", topAfter(
                weight(8, MILLION).andThen(weight(8, -MILLION)), Face::add), ">= 0");
    }

    private static void lookedAtLast() {
        check.sentence("ArithmeticException is thrown ..., and looked at last");
        check.refuses(weight(2, MILLION), "times 1001 would be too large too", b -> b.times(1001), ARGUMENT);
        check.refuses(weight(2, MILLION), "times the largest", b -> b.times(Integer.MAX_VALUE), ARGUMENT);
        check.refuses(weight(2, MILLION), "add with one alone", Face::add, STATE);
        check.refuses(b -> { }, "times with none", b -> b.times(1000), STATE);
    }

    private static void theLargestInUse() {
        check.sentence("All sizes and degrees are at most 1000000: such constraints are used as all others");
        Consumer<Face> ten = board -> {
            for (int v = 0; v < 10; v++) {
                board.term(v, v % 2 == 0 ? 1 : -1);
            }
            board.load(board.require(0, -4));
            board.times(1000);
            board.times(1000);
        };
        String weights = "1000000 x0 -1000000 x1 1000000 x2 -1000000 x3 1000000 x4 -1000000 x5 "
                + "1000000 x6 -1000000 x7 1000000 x8 -1000000 x9 ";
        check.same("ten sizes of a million", Look.top(Check.after(ten)), weights + ">= 1000000");
        check.same("saturated", topAfter(ten, Face::saturate), weights + ">= 1000000");
        check.same("learnt", Look.stored(Check.after(ten.andThen(Face::learn)), 1), weights + ">= 1000000 derived");
        check.same("divided", topAfter(ten, b -> b.divide(MILLION)),
                "1 x0 -1 x1 1 x2 -1 x3 1 x4 -1 x5 1 x6 -1 x7 1 x8 -1 x9 >= 1");
        check.same("weakened", topAfter(ten, b -> b.weaken(9)), weights.replace("-1000000 x9 ", "") + ">= 0");
        Face board = Check.after(ten.andThen(Face::learn));
        check.same("closed", board.close(1023 - 256, 682), 1023 * 1024 + 682 + 256);
        check.same("in conflict", board.close(1023, 682), -1);
        check.same("not met", board.found(682), false);
        check.same("met", board.found(682 + 1), true);
        check.same("not void", board.verdict(), 3);
    }
}
