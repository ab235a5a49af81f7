import java.util.concurrent.Callable;
import java.util.function.Consumer;
import java.util.function.Function;

/** What the tests share: comparing answers, expecting exceptions, and setting up boards. */
final class Check {
    private final String title;
    private String about = "";
    private int asked = 0;
    private int wrong = 0;

    Check(String title) {
        this.title = title;
    }

    /** Names the sentence of the document that the checks from here on are about. */
    void sentence(String text) {
        about = "\"" + text + "\": ";
    }

    void same(String what, Object got, Object want) {
        asked++;
        if (!got.equals(want)) {
            wrong++;
            System.out.println(title + ": " + about + what + ": got " + got + ", due is " + want);
        }
    }

    void yields(String what, Runnable call, Class<? extends RuntimeException> want) {
        same(what, outcome(call), want.getSimpleName());
    }

    /** After the calls before it, the call throws just that, and nothing has changed. */
    void refuses(Consumer<Face> before, String what, Consumer<Face> call, Class<? extends RuntimeException> want) {
        leaves(before, what, board -> outcome(() -> call.accept(board)), want.getSimpleName());
    }

    /** After the calls before it, the call answers just that, and nothing has changed. */
    void leaves(Consumer<Face> before, String what, Function<Face, Object> call, Object want) {
        for (Look look : Look.values()) {
            Face board = after(before);
            Object got = call.apply(board);
            if (look.ordinal() == 0) {
                same(what, got, want);
            }
            same(what + " changes nothing of " + look, look.at(board), look.at(after(before)));
        }
    }

    void end() {
        System.out.println(title + ": " + asked + " asked, " + wrong + " wrong");
        if (wrong > 0) {
            System.exit(1);
        }
    }

    /** The answer, or the name of what is thrown instead. */
    static String outcome(Callable<Object> call) {
        try {
            return String.valueOf(call.call());
        } catch (Exception e) {
            return e.getClass().getSimpleName();
        }
    }

    static String outcome(Runnable call) {
        return outcome(() -> {
            call.run();
            return "nothing";
        });
    }

    static Face after(Consumer<Face> calls) {
        Face board = new Real();
        calls.accept(board);
        return board;
    }

    /** Sets factors of the draft: variable, factor, variable, factor, and so on. */
    static Face draft(Face board, int... pairs) {
        for (int i = 0; i < pairs.length; i += 2) {
            board.term(pairs[i], pairs[i + 1]);
        }
        return board;
    }

    static Face withFullStore() {
        Face board = new Real();
        for (int k = 0; k < 30; k++) {
            board.require(0, 0);
        }
        return board;
    }
}
