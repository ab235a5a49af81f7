import java.util.ArrayList;
import java.util.List;
import java.util.function.Consumer;
import java.util.function.Function;

/** Every call of the face, with the last inputs that are taken and the first that are refused. */
final class EdgeCalls {
    record Call(String name, Function<Face, Object> body) {
        String on(Face board) {
            return Check.outcome(() -> body.apply(board));
        }
    }

    private static final int[] FAR = {Integer.MIN_VALUE, Integer.MAX_VALUE};

    private final List<Call> calls = new ArrayList<>();

    private EdgeCalls() {
        draftCalls();
        storeCalls();
        stackCalls();
        proofCalls();
    }

    static List<Call> all() {
        return new EdgeCalls().calls;
    }

    private void ask(String name, Function<Face, Object> body) {
        calls.add(new Call(name, body));
    }

    private void tell(String name, Consumer<Face> body) {
        ask(name, board -> {
            body.accept(board);
            return "nothing";
        });
    }

    private void draftCalls() {
        int[][] terms = {
            {0, -99}, {9, 99}, {3, 0}, {-1, 0}, {10, 0}, {0, -100}, {9, 100}, {-1, 100}, {10, -100}, FAR};
        for (int[] term : terms) {
            tell("term " + term[0] + " " + term[1], board -> board.term(term[0], term[1]));
        }
        tell("clear", Face::clear);
        for (int kind : new int[] {-1, 0, 1, 2}) {
            for (int b : new int[] {-10000, -9999, 0, 9999, 10000}) {
                ask("require " + kind + " " + b, board -> board.require(kind, b));
            }
        }
        ask("require far", board -> board.require(FAR[0], FAR[1]));
        tell("objective", Face::objective);
    }

    private void storeCalls() {
        ask("constraints", Face::constraints);
        for (int k : new int[] {-1, 0, 2, 3, 28, 29, 30}) {
            for (int v : new int[] {-3, -2, -1, 0, 9, 10}) {
                ask("constraint " + k + " " + v, board -> board.constraint(k, v));
            }
            tell("load " + k, board -> board.load(k));
        }
        ask("constraint far", board -> board.constraint(FAR[0], FAR[1]));
        tell("load far", board -> board.load(FAR[1]));
        int[][] partials = {
            {0, 0}, {0, 1023}, {1023, 0}, {1023, 1023}, {-1, 0}, {1024, 0}, {0, -1}, {0, 1024}, FAR};
        for (int[] partial : partials) {
            ask("close " + partial[0] + " " + partial[1], board -> board.close(partial[0], partial[1]));
        }
    }

    private void stackCalls() {
        for (int v : new int[] {FAR[0], -3, -2, -1, 0, 4, 9, 10, FAR[1]}) {
            tell("axiom " + v + " true", board -> board.axiom(v, true));
            tell("axiom " + v + " false", board -> board.axiom(v, false));
            tell("weaken " + v, board -> board.weaken(v));
            ask("top " + v, board -> board.top(v));
        }
        tell("add", Face::add);
        for (int m : new int[] {FAR[0], -1, 0, 1, 2, 1000, 1001, 1000000, 1000001, FAR[1]}) {
            tell("times " + m, board -> board.times(m));
            tell("divide " + m, board -> board.divide(m));
        }
        tell("saturate", Face::saturate);
        tell("drop", Face::drop);
    }

    private void proofCalls() {
        ask("learn", Face::learn);
        for (int b : new int[] {FAR[0], -10000, -9999, -11, -10, 9999, 10000, FAR[1]}) {
            ask("contradict " + b, board -> board.contradict(b));
        }
        for (int choice : new int[] {FAR[0], -1, 0, 1, 2, 1023, 1024, FAR[1]}) {
            ask("found " + choice, board -> board.found(choice));
        }
        ask("verdict", Face::verdict);
        ask("best", Face::best);
        ask("solve", Face::solve);
        ask("least", Face::least);
        for (int v : new int[] {FAR[0], -2, -1, 0, 9, 10, FAR[1]}) {
            ask("value " + v, board -> board.value(v));
        }
    }
}
