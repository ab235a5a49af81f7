import java.util.ArrayList;
import java.util.List;
import java.util.function.Consumer;

/**
 * A board on which everything that a call could wrongly change stands filled: the draft, the store,
 * the stack, the objective and a solution. What differs is whether a choice was taken, and how many
 * constraints the store and the stack have.
 */
record Situation(boolean aims, boolean taken, int stored, int stacked, boolean large) implements Consumer<Face> {
    static final int LEAST_STORED = 3;

    static Situation open(int stored, int stacked) {
        return new Situation(true, false, stored, stacked, false);
    }

    static Situation taken(int stored, int stacked) {
        return new Situation(true, true, stored, stacked, false);
    }

    /** As usual: there is room everywhere. */
    static final Situation BUSY = open(4, 3);

    /** All that a refusal may depend on, together with its neighbours. */
    static List<Situation> all() {
        List<Situation> all = new ArrayList<>();
        for (int stored : new int[] {LEAST_STORED, 29, 30}) {
            for (int stacked : new int[] {0, 1, 2, 5, 6}) {
                all.add(new Situation(true, false, stored, stacked, false));
                all.add(new Situation(true, true, stored, stacked, stacked > 0));
            }
            all.add(new Situation(false, true, stored, 2, false));
            all.add(new Situation(true, false, stored, 3, true));
        }
        return all;
    }

    @Override
    public void accept(Face board) {
        Check.draft(board, 0, 3, 1, -2, 9, 1).require(0, 0);
        Check.draft(board, 4, 1, 5, 1).require(1, 1);
        if (aims) {
            Check.draft(board, 0, 5, 1, -3, 9, 2).objective();
        }
        board.solve();
        if (taken) {
            board.found(1);
        }
        for (int k = aims && taken ? 3 : 2; k < stored; k++) {
            fill(board, k);
        }
        for (int k = 0; k < stacked; k++) {
            push(board, k);
        }
        // Each set of these has a least sum of its own, so that even a full board tells them apart.
        Check.draft(board, 3, -1, 6, -2, 7, 4, 8, -8);
    }

    private void fill(Face board, int k) {
        board.term(k % 10, k % 2 == 0 ? k : -k);
        if (taken || k % 3 == 0) {
            board.contradict(-9999);
        } else {
            board.require(0, -k);
        }
    }

    private void push(Face board, int k) {
        if (large) {
            board.load(1);
            board.times(1000);
            board.times(1000);
        } else if (k == 2) {
            board.axiom(7, false);
        } else {
            board.load(k % 2);
            board.times(k + 1);
        }
    }
}
