import java.util.HashMap;
import java.util.List;
import java.util.Map;

/**
 * Every call with the last inputs that are taken and the first that are refused, in every situation
 * that a refusal may depend on: answered and followed by the same state as with SlowBoard, and if
 * it is refused, by the state before.
 */
final class EdgeGridTest {
    private static final Check check = new Check("EdgeGridTest");
    private static final List<EdgeCalls.Call> calls = EdgeCalls.all();

    public static void main(String[] args) {
        for (Situation situation : Situation.all()) {
            standsAsItSays(situation);
            tryAll(situation);
        }
        check.end();
    }

    private static void standsAsItSays(Situation situation) {
        Face board = Check.after(situation);
        check.same(situation + ": stored", board.constraints(), situation.stored());
        check.same(situation + ": stacked", board.top(-2), situation.stacked());
        check.same(situation + ": taken", !Check.outcome(board::best).endsWith("Exception"), situation.taken());
        check.same(situation + ": solved", Look.solution(board).equals("none"), false);
    }

    private static void tryAll(Situation situation) {
        Map<Look, String> before = new HashMap<>();
        for (Look look : Look.values()) {
            before.put(look, look.at(Check.after(situation)));
        }
        for (EdgeCalls.Call call : calls) {
            for (Look look : Look.values()) {
                tryOne(situation, call, look, before.get(look));
            }
        }
    }

    private static void tryOne(Situation situation, EdgeCalls.Call call, Look look, String before) {
        Face board = Check.after(situation);
        Face slow = new SlowBoard();
        situation.accept(slow);
        String what = situation + ": " + call.name();
        String got = call.on(board);
        check.same(what, got, call.on(slow));
        String seen = look.at(board);
        check.same(what + ", then " + look, seen, look.at(slow));
        if (got.endsWith("Exception")) {
            check.same(what + " changes nothing of " + look, seen, before);
        }
    }
}
