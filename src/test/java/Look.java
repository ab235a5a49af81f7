import java.util.NoSuchElementException;

/**
 * One look at a board. All of them together see all that calls can tell of its state; but most use
 * the board up, so each is for a board of its own.
 */
enum Look {
    STORE {
        @Override
        String at(Face board) {
            StringBuilder text = new StringBuilder();
            int count = board.constraints();
            for (int k = 0; k < count; k++) {
                text.append(stored(board, k)).append("; ");
            }
            return text.append(count).toString();
        }
    },

    STACK {
        @Override
        String at(Face board) {
            StringBuilder text = new StringBuilder();
            int count = board.top(-2);
            for (int k = count; k > 0; k--) {
                text.append(top(board)).append("; ");
                board.drop();
            }
            return text.append(count).append(" then ").append(board.top(-2)).toString();
        }
    },

    ANSWERS {
        @Override
        String at(Face board) {
            String text = "verdict " + board.verdict();
            text += ", best " + Check.outcome(board::best);
            return text + ", solved " + solution(board);
        }
    },

    DRAFT {
        @Override
        String at(Face board) {
            if (board.constraints() < 30) {
                return stored(board, board.contradict(-9999));
            }
            return Check.outcome(board::objective) + SOLVED_ANEW.at(board);
        }
    },

    SOLVED_ANEW {
        @Override
        String at(Face board) {
            return board.solve() + " " + solution(board);
        }
    },

    /** The factors of the objective stand in the bound that a taken choice brings. */
    OBJECTIVE {
        @Override
        String at(Face board) {
            board.solve();
            String solution = solution(board);
            int choice = 0;
            for (int v = 0; v < 10 && !solution.equals("none"); v++) {
                choice |= board.value(v) << v;
            }
            int taken = choice;
            String text = Check.outcome(() -> board.found(taken));
            int count = board.constraints();
            return text + (count > 0 ? stored(board, count - 1) : "") + Check.outcome(board::best);
        }
    },

    FIXED {
        @Override
        String at(Face board) {
            return Check.outcome(() -> board.require(0, 0)) + Check.outcome(() -> board.objective());
        }
    },

    CLOSED {
        @Override
        String at(Face board) {
            StringBuilder text = new StringBuilder();
            for (int v = 0; v < 10; v++) {
                text.append(board.close(1 << v, 0)).append(' ').append(board.close(1 << v, 1 << v)).append(' ');
            }
            return text.append(board.close(0, 0)).toString();
        }
    };

    abstract String at(Face board);

    static String stored(Face board, int k) {
        StringBuilder text = new StringBuilder();
        for (int v = 0; v < 10; v++) {
            appendTerm(text, board.constraint(k, v), v);
        }
        text.append(">= ").append(board.constraint(k, -1));
        return text.append(board.constraint(k, -2) == 1 ? " given" : " derived").toString();
    }

    static String top(Face board) {
        StringBuilder text = new StringBuilder();
        for (int v = 0; v < 10; v++) {
            appendTerm(text, board.top(v), v);
        }
        return text.append(">= ").append(board.top(-1)).toString();
    }

    private static void appendTerm(StringBuilder text, int weight, int v) {
        if (weight != 0) {
            text.append(weight).append(" x").append(v).append(' ');
        }
    }

    /** The least value and the truth values 0 .. 9 of the latest solve, or none. */
    static String solution(Face board) {
        try {
            StringBuilder text = new StringBuilder();
            text.append(board.least()).append(' ');
            for (int v = 0; v < 10; v++) {
                text.append(board.value(v));
            }
            return text.toString();
        } catch (NoSuchElementException e) {
            return "none";
        }
    }
}
