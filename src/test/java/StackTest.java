import java.util.NoSuchElementException;

/** Promises 9 to 17: the stack and the rules by which constraints come of others. */
final class StackTest {
    private static final Check check = new Check("StackTest");
    private static final Class<IllegalArgumentException> ARGUMENT = IllegalArgumentException.class;
    private static final Class<IllegalStateException> STATE = IllegalStateException.class;
    private static final Class<NoSuchElementException> ELEMENT = NoSuchElementException.class;
    private static final Class<ArithmeticException> ARITHMETIC = ArithmeticException.class;

    public static void main(String[] args) {
        promise9Load();
        promise10Axiom();
        promise11Add();
        promise11AddTakesTheDegreeDown();
        promise11AddRefuses();
        promise11AddAtTheLimit();
        promise12Times();
        promise12TimesAtTheLimit();
        promise13Divide();
        promise14Saturate();
        promise15Weaken();
        promise16Drop();
        promise17Top();
        check.end();
    }

    /** A board with "the factors, at least b" on its stack, and in its store as number 0. */
    private static Face loaded(int b, int... pairs) {
        Face board = new Real();
        push(board, b, pairs);
        return board;
    }

    private static void push(Face board, int b, int... pairs) {
        board.load(Check.draft(board, pairs).require(0, b));
    }

    private static void fill(Face board) {
        while (board.top(-2) < 6) {
            board.axiom(9, false);
        }
    }

    private static void promise9Load() {
        Face board = loaded(1, 0, 3, 9, -2);
        check.same("9 load", Look.top(board), "3 x0 -2 x9 >= 3");
        push(board, 5, 4, 7);
        check.same("9 load on top", Look.top(board), "7 x4 >= 5");
        check.same("9 count", board.top(-2), 2);
        board.times(3);
        check.same("9 what is done on the stack stays there", Look.stored(board, 1), "7 x4 >= 5 given");
        for (int k : new int[] {-1, 2, 30, Integer.MIN_VALUE, Integer.MAX_VALUE}) {
            check.yields("9 load " + k, () -> board.load(k), ELEMENT);
        }
        for (int k = 0; k < 4; k++) {
            board.load(0);
        }
        check.same("9 six fit", board.top(-2), 6);
        check.yields("9 full", () -> board.load(0), STATE);
        check.yields("9 no such one first", () -> board.load(2), ELEMENT);
        board.drop();
        board.load(1);
        check.same("9 load again", Look.top(board), "7 x4 >= 5");
    }

    private static void promise10Axiom() {
        Face board = new Real();
        board.axiom(0, true);
        check.same("10 true", Look.top(board), "1 x0 >= 0");
        board.axiom(9, false);
        check.same("10 false", Look.top(board), "-1 x9 >= 0");
        push(board, 3, 1, 2, 2, 5);
        board.drop();
        board.axiom(4, true);
        check.same("10 nothing is left of an earlier row", Look.top(board), "1 x4 >= 0");
        check.same("10 count", board.top(-2), 3);
        for (int v : new int[] {-1, 10, Integer.MIN_VALUE, Integer.MAX_VALUE}) {
            check.yields("10 axiom " + v, () -> board.axiom(v, true), ELEMENT);
        }
        fill(board);
        check.same("10 six fit", board.top(-2), 6);
        check.yields("10 full", () -> board.axiom(0, true), STATE);
        check.yields("10 no such variable first", () -> board.axiom(10, false), ELEMENT);
    }

    private static void promise11Add() {
        Face board = loaded(4, 0, 3, 1, 1, 2, 2);
        push(board, 2, 0, 1, 3, 6);
        board.add();
        check.same("11 add", Look.top(board), "4 x0 1 x1 2 x2 6 x3 >= 6");
        check.same("11 one is left", board.top(-2), 1);
        check.same("11 the store is left", Look.stored(board, 0), "3 x0 1 x1 2 x2 >= 4 given");
        Face negative = loaded(-1, 0, -3, 9, -1);
        push(negative, -2, 0, -4);
        negative.add();
        check.same("11 both below 0", Look.top(negative), "-7 x0 -1 x9 >= 5");
        Face deep = loaded(1, 5, 1);
        push(deep, 1, 6, 1);
        push(deep, 1, 7, 1);
        deep.add();
        check.same("11 the topmost two", Look.top(deep), "1 x6 1 x7 >= 2");
        deep.drop();
        check.same("11 the one below is left", Look.top(deep), "1 x5 >= 1");
    }

    private static void promise11AddTakesTheDegreeDown() {
        Face board = loaded(5, 0, 5, 1, 4);
        push(board, 1, 0, -2, 1, -4, 2, 1);
        check.same("11 before", Look.top(board), "-2 x0 -4 x1 1 x2 >= 7");
        board.add();
        check.same("11 lesser sizes off the degree", Look.top(board), "3 x0 1 x2 >= 6");
        Face turned = loaded(1, 0, -2, 1, -4, 2, 1);
        push(turned, 5, 0, 5, 1, 4);
        turned.add();
        check.same("11 the other way round", Look.top(turned), "3 x0 1 x2 >= 6");
        Face greater = loaded(1, 0, 2);
        push(greater, -4, 0, -7);
        greater.add();
        check.same("11 the second is greater", Look.top(greater), "-5 x0 >= 2");
        Face low = loaded(1, 0, 5, 1, 5);
        push(low, -9, 0, -5, 1, -5);
        low.add();
        check.same("11 not below 0", Look.top(low), ">= 0");
        Face once = loaded(1, 0, 9);
        push(once, 0, 0, -9, 1, 1);
        once.add();
        check.same("11 just enough", Look.top(once), "1 x1 >= 1");
        Face axioms = new Real();
        axioms.axiom(3, true);
        axioms.axiom(3, false);
        axioms.add();
        check.same("11 axioms of both kinds", Look.top(axioms), ">= 0");
        Face ones = loaded(1, 0, -1, 1, 1);
        push(ones, 1, 0, 1);
        ones.add();
        check.same("11 sizes of 1, the first below 0", Look.top(ones), "1 x1 >= 2");
        Face onesTurned = loaded(1, 0, 1);
        push(onesTurned, 1, 0, -1, 1, 1);
        onesTurned.add();
        check.same("11 sizes of 1, the second below 0", Look.top(onesTurned), "1 x1 >= 2");
        Face late = loaded(3, 0, 1, 1, 9);
        push(late, 2, 0, -1, 1, -9);
        check.same("11 the degree is cut at 0 in the end only", Look.top(late), "-1 x0 -9 x1 >= 12");
        late.add();
        check.same("11 after", Look.top(late), ">= 5");
    }

    private static void promise11AddRefuses() {
        Face board = new Real();
        check.yields("11 none", board::add, STATE);
        board.axiom(0, true);
        check.yields("11 one", board::add, STATE);
        board.axiom(0, true);
        board.add();
        check.yields("11 one again", board::add, STATE);
    }

    private static void promise11AddAtTheLimit() {
        for (boolean truth : new boolean[] {true, false}) {
            Face board = new Real();
            board.axiom(9, truth);
            board.times(1000);
            board.times(999);
            board.axiom(9, truth);
            board.times(1000);
            board.add();
            check.same("11 size 1000000", board.top(9), truth ? 1000000 : -1000000);
            board.axiom(9, truth);
            check.yields("11 size 1000001", board::add, ARITHMETIC);
            check.same("11 both are left", board.top(-2), 2);
            board.drop();
            check.same("11 the lower is left", board.top(9), truth ? 1000000 : -1000000);
            board.axiom(9, !truth);
            board.add();
            check.same("11 size 999999", board.top(9), truth ? 999999 : -999999);
        }
        Face degree = loaded(8000, 0, 1);
        degree.times(125);
        push(degree, 1, 1, 1);
        check.yields("11 degree 1000001", degree::add, ARITHMETIC);
        degree.drop();
        push(degree, 0, 1, 1);
        degree.add();
        check.same("11 degree 1000000", Look.top(degree), "125 x0 1 x1 >= 1000000");
        push(degree, 0, 0, -1);
        degree.add();
        check.same("11 looked at last: the degree of the sum counts", Look.top(degree), "124 x0 1 x1 >= 1000000");
    }

    private static void promise12Times() {
        Face board = new Real();
        check.yields("12 none", () -> board.times(2), STATE);
        check.yields("12 none first", () -> board.times(0), STATE);
        push(board, 2, 0, 5, 9, -3);
        board.times(7);
        check.same("12 times 7", Look.top(board), "35 x0 -21 x9 >= 35");
        board.times(1);
        check.same("12 times 1", Look.top(board), "35 x0 -21 x9 >= 35");
        board.times(1000);
        check.same("12 times 1000", Look.top(board), "35000 x0 -21000 x9 >= 35000");
        for (int m : new int[] {0, -1, 1001, Integer.MIN_VALUE, Integer.MAX_VALUE}) {
            check.yields("12 times " + m, () -> board.times(m), ARGUMENT);
        }
        board.axiom(1, true);
        board.times(4);
        check.same("12 a degree of 0", Look.top(board), "4 x1 >= 0");
        board.drop();
        check.same("12 the one below is left", Look.top(board), "35000 x0 -21000 x9 >= 35000");
    }

    private static void promise12TimesAtTheLimit() {
        for (boolean truth : new boolean[] {true, false}) {
            Face board = new Real();
            board.axiom(9, truth);
            board.times(1000);
            board.times(1000);
            check.same("12 size 1000000", board.top(9), truth ? 1000000 : -1000000);
            for (int m : new int[] {2, 3, 999, 1000}) {
                check.yields("12 too large " + m, () -> board.times(m), ARITHMETIC);
            }
            check.yields("12 wrong m first", () -> board.times(1001), ARGUMENT);
        }
        Face degree = loaded(8000, 0, 1);
        check.yields("12 degree 1008000", () -> degree.times(126), ARITHMETIC);
        degree.times(125);
        check.same("12 degree 1000000", Look.top(degree), "125 x0 >= 1000000");
        check.yields("12 degree 2000000", () -> degree.times(2), ARITHMETIC);
        check.yields("12 degree 1000000000", () -> degree.times(1000), ARITHMETIC);
        Face sum = loaded(10, 0, 99, 1, 2);
        sum.times(1000);
        check.yields("12 one size above", () -> sum.times(11), ARITHMETIC);
        sum.times(10);
        check.same("12 one size near", Look.top(sum), "990000 x0 20000 x1 >= 100000");
    }

    private static void promise13Divide() {
        Face board = new Real();
        check.yields("13 none", () -> board.divide(2), STATE);
        check.yields("13 none first", () -> board.divide(0), STATE);
        push(board, 1, 0, 4, 1, 5, 2, -4, 3, -5, 4, 1, 5, -1);
        check.same("13 before", Look.top(board), "4 x0 5 x1 -4 x2 -5 x3 1 x4 -1 x5 >= 11");
        board.divide(1);
        check.same("13 by 1", Look.top(board), "4 x0 5 x1 -4 x2 -5 x3 1 x4 -1 x5 >= 11");
        board.divide(2);
        check.same("13 by 2", Look.top(board), "2 x0 3 x1 -2 x2 -3 x3 1 x4 -1 x5 >= 6");
        board.divide(3);
        check.same("13 by 3", Look.top(board), "1 x0 1 x1 -1 x2 -1 x3 1 x4 -1 x5 >= 2");
        for (int m : new int[] {0, -1, 1000001, Integer.MIN_VALUE, Integer.MAX_VALUE}) {
            check.yields("13 divide " + m, () -> board.divide(m), ARGUMENT);
        }
        board.divide(1000000);
        check.same("13 by 1000000", Look.top(board), "1 x0 1 x1 -1 x2 -1 x3 1 x4 -1 x5 >= 1");
        Face large = loaded(1, 0, 1);
        large.times(1000);
        large.times(1000);
        large.divide(999999);
        check.same("13 just above 1", Look.top(large), "2 x0 >= 2");
        Face zero = new Real();
        zero.axiom(0, false);
        zero.divide(5);
        check.same("13 a degree of 0", Look.top(zero), "-1 x0 >= 0");
    }

    private static void promise14Saturate() {
        Face board = new Real();
        check.yields("14 none", board::saturate, STATE);
        push(board, -8, 0, 5, 1, 3, 2, 2, 3, -9, 4, -2);
        check.same("14 before", Look.top(board), "5 x0 3 x1 2 x2 -9 x3 -2 x4 >= 3");
        board.saturate();
        check.same("14 saturate", Look.top(board), "3 x0 3 x1 2 x2 -3 x3 -2 x4 >= 3");
        board.axiom(0, false);
        board.axiom(1, true);
        board.add();
        board.saturate();
        check.same("14 a degree of 0", Look.top(board), ">= 0");
        board.drop();
        check.same("14 the one below is left", Look.top(board), "3 x0 3 x1 2 x2 -3 x3 -2 x4 >= 3");
        check.same("14 the store is left", Look.stored(board, 0), "5 x0 3 x1 2 x2 -9 x3 -2 x4 >= 3 given");
    }

    private static void promise15Weaken() {
        Face board = new Real();
        check.yields("15 none", () -> board.weaken(0), STATE);
        check.yields("15 none first", () -> board.weaken(10), STATE);
        push(board, 0, 0, 4, 9, -5, 2, 3);
        check.same("15 before", Look.top(board), "4 x0 3 x2 -5 x9 >= 5");
        board.weaken(1);
        check.same("15 one that does not occur", Look.top(board), "4 x0 3 x2 -5 x9 >= 5");
        for (int v : new int[] {-1, 10, Integer.MIN_VALUE, Integer.MAX_VALUE}) {
            check.yields("15 weaken " + v, () -> board.weaken(v), ELEMENT);
        }
        board.weaken(0);
        check.same("15 above 0", Look.top(board), "3 x2 -5 x9 >= 1");
        board.weaken(2);
        check.same("15 not below 0", Look.top(board), "-5 x9 >= 0");
        board.load(0);
        board.weaken(9);
        check.same("15 below 0", Look.top(board), "4 x0 3 x2 >= 0");
        check.same("15 the store is left", Look.stored(board, 0), "4 x0 3 x2 -5 x9 >= 5 given");
    }

    private static void promise16Drop() {
        Face board = new Real();
        check.yields("16 none", board::drop, STATE);
        board.axiom(0, true);
        board.axiom(1, true);
        board.drop();
        check.same("16 the topmost goes", Look.top(board), "1 x0 >= 0");
        board.drop();
        check.same("16 all gone", board.top(-2), 0);
        check.yields("16 none again", board::drop, STATE);
        check.same("16 the store is left", board.constraints(), 0);
    }

    private static void promise17Top() {
        Face board = new Real();
        check.same("17 count of none", board.top(-2), 0);
        for (int v = -1; v < 10; v++) {
            int asked = v;
            check.yields("17 none " + v, () -> board.top(asked), STATE);
        }
        for (int v : new int[] {-3, 10, Integer.MIN_VALUE, Integer.MAX_VALUE}) {
            check.yields("17 wrong v first " + v, () -> board.top(v), ARGUMENT);
        }
        push(board, 6, 0, 2, 9, -3);
        check.same("17 count", board.top(-2), 1);
        check.same("17 weight 0", board.top(0), 2);
        check.same("17 weight 9", board.top(9), -3);
        check.same("17 weight of one that does not occur", board.top(5), 0);
        check.same("17 degree", board.top(-1), 9);
        for (int v : new int[] {-3, 10, Integer.MIN_VALUE, Integer.MAX_VALUE}) {
            check.yields("17 wrong v " + v, () -> board.top(v), ARGUMENT);
        }
        fill(board);
        check.same("17 count of six", board.top(-2), 6);
    }
}
