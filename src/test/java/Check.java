/** What the tests share: comparing answers, expecting exceptions, and writing a board's state out. */
final class Check {
    private static final int VARIABLES = 10;

    private final String title;
    private int asked = 0;
    private int wrong = 0;

    Check(String title) {
        this.title = title;
    }

    void same(String what, Object got, Object want) {
        asked++;
        if (!got.equals(want)) {
            wrong++;
            System.out.println(title + ": " + what + ": got " + got + ", due is " + want);
        }
    }

    void yields(String what, Runnable call, Class<? extends RuntimeException> want) {
        same(what, outcome(call), want.getSimpleName());
    }

    /** The call throws just that, and nothing that can be asked without a change is changed. */
    void refuses(ChoiceBoard board, String what, Runnable call, Class<? extends RuntimeException> want) {
        String before = state(board);
        yields(what, call, want);
        same(what + " changes nothing", state(board), before);
    }

    void end() {
        System.out.println(title + ": " + asked + " asked, " + wrong + " wrong");
        if (wrong > 0) {
            System.exit(1);
        }
    }

    static String outcome(Runnable call) {
        try {
            call.run();
            return "nothing";
        } catch (RuntimeException e) {
            return e.getClass().getSimpleName();
        }
    }

    /** Sets factors of the draft: variable, factor, variable, factor, and so on. */
    static ChoiceBoard draft(ChoiceBoard board, int... pairs) {
        for (int i = 0; i < pairs.length; i += 2) {
            board.term(pairs[i], pairs[i + 1]);
        }
        return board;
    }

    static String stored(ChoiceBoard board, int k) {
        StringBuilder text = new StringBuilder();
        for (int v = 0; v < VARIABLES; v++) {
            appendTerm(text, board.constraint(k, v), v);
        }
        text.append(">= ").append(board.constraint(k, -1));
        return text.append(board.constraint(k, -2) == 1 ? " given" : " derived").toString();
    }

    static String top(ChoiceBoard board) {
        StringBuilder text = new StringBuilder();
        for (int v = 0; v < VARIABLES; v++) {
            appendTerm(text, board.top(v), v);
        }
        return text.append(">= ").append(board.top(-1)).toString();
    }

    private static void appendTerm(StringBuilder text, int weight, int v) {
        if (weight != 0) {
            text.append(weight).append(" x").append(v).append(' ');
        }
    }

    static String state(ChoiceBoard board) {
        StringBuilder text = new StringBuilder();
        for (int k = 0; k < board.constraints(); k++) {
            text.append(stored(board, k)).append("; ");
        }
        text.append("stack ").append(board.top(-2)).append(": ");
        text.append(board.top(-2) > 0 ? top(board) : "empty");
        text.append("; verdict ").append(board.verdict());
        text.append("; best ").append(bestOrNone(board));
        return text.append("; solved ").append(solution(board)).toString();
    }

    private static String bestOrNone(ChoiceBoard board) {
        try {
            return String.valueOf(board.best());
        } catch (java.util.NoSuchElementException e) {
            return "none";
        }
    }

    /** The least value and the truth values 0 .. 9 of the latest solve, or none. */
    static String solution(ChoiceBoard board) {
        try {
            StringBuilder text = new StringBuilder();
            text.append(board.least()).append(' ');
            for (int v = 0; v < VARIABLES; v++) {
                text.append(board.value(v));
            }
            return text.toString();
        } catch (java.util.NoSuchElementException e) {
            return "none";
        }
    }

    static ChoiceBoard withFullStore() {
        ChoiceBoard board = new ChoiceBoard();
        for (int k = 0; k < 30; k++) {
            board.require(0, 0);
        }
        return board;
    }
}
