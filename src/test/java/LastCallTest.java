import java.util.List;

/** "An object is used for at most 512 calls after it has been made": the 512th is answered as any other. */
final class LastCallTest {
    private static final Check check = new Check("LastCallTest");

    public static void main(String[] args) {
        for (EdgeCalls.Call call : EdgeCalls.all()) {
            theSameCallAllTheTime(call);
            theLastCall(call, Situation.BUSY);
            theLastCall(call, Situation.taken(29, 5));
        }
        theLastCallsChange();
        check.end();
    }

    private static void theSameCallAllTheTime(EdgeCalls.Call call) {
        Real board = new Real();
        Face slow = new SlowBoard();
        for (int count = 1; board.callsLeft() > 0; count++) {
            check.same("call " + count + " of " + call.name(), call.on(board), call.on(slow));
        }
    }

    /** Asks questions, some of them refused, none of which changes anything, up to the 511th call. */
    private static void waste(Real board) {
        List<String> questions = List.of("constraint", "close", "top", "value");
        List<EdgeCalls.Call> calls = EdgeCalls.all();
        calls.removeIf(call -> !questions.contains(call.name().split(" ")[0]));
        for (int k = 0; board.callsLeft() > 1; k++) {
            calls.get(k % calls.size()).on(board);
        }
    }

    private static void theLastCall(EdgeCalls.Call call, Situation situation) {
        Real board = new Real();
        Face slow = new SlowBoard();
        situation.accept(board);
        situation.accept(slow);
        waste(board);
        check.same("the 512th call, " + call.name(), call.on(board), call.on(slow));
    }

    private static void theLastCallsChange() {
        Real board = new Real();
        while (board.callsLeft() > 10) {
            board.constraints();
        }
        board.term(0, 1);
        board.term(9, 1);
        check.same("the 505th call", board.require(0, 2), 0);
        board.load(0);
        board.times(3);
        check.same("the 508th call", board.learn(), 1);
        check.same("the 509th call", board.solve(), 1);
        check.same("the 510th call", board.value(9), 1);
        check.same("the 511th call", board.found(513), true);
        check.same("the 512th call", board.verdict(), 3);
        check.same("no call is left", board.callsLeft(), 0);
    }
}
