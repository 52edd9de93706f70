import java.util.function.Supplier;

/** An object and the model beside it: each call goes to both, is counted, and their answers are compared. */
final class Comparison {
    static final int LAST_CALL = 512;

    private final Checks checks;
    private final String name;
    private final LinePair pair = new LinePair();
    private final Model model = new Model();
    private int calls = 0;

    Comparison(Checks checks, String name) {
        this.checks = checks;
        this.name = name;
    }

    int callsLeft() {
        return LAST_CALL - calls;
    }

    void line(int k, boolean up) {
        compare("line(" + k + ", " + up + ")", () -> pair.line(k, up), () -> model.line(k, up));
    }

    void write(int controller, int port, int word) {
        compare("write(" + controller + ", " + port + ", " + word + ")",
                () -> pair.write(controller, port, word), () -> model.write(controller, port, word));
    }

    void read(int controller, int port) {
        compare("read(" + controller + ", " + port + ")",
                () -> pair.read(controller, port), () -> model.read(controller, port));
    }

    void take() {
        compare("take()", pair::take, model::take);
    }

    void delivers(int controller) {
        compare("delivers(" + controller + ")", () -> pair.delivers(controller), () -> model.delivers(controller));
    }

    void about(int controller, int what) {
        compare("about(" + controller + ", " + what + ")",
                () -> pair.about(controller, what), () -> model.about(controller, what));
    }

    void mode(int controller, int which) {
        compare("mode(" + controller + ", " + which + ")",
                () -> pair.mode(controller, which), () -> model.mode(controller, which));
    }

    void count(int what) {
        compare("count(" + what + ")", () -> pair.count(what), () -> model.count(what));
    }

    /** All that can be asked without a change, in 35 calls. */
    void look() {
        for (int controller = 0; controller <= 1; controller++) {
            delivers(controller);
            for (int what = 0; what <= 7; what++) {
                about(controller, what);
            }
            for (int which = 0; which <= 6; which++) {
                mode(controller, which);
            }
        }
        for (int what = 0; what <= 2; what++) {
            count(what);
        }
    }

    private void compare(String call, Supplier<Object> asked, Supplier<Object> due) {
        calls++;
        checks.same(name + ", call " + calls + ", " + call, outcome(asked), outcome(due));
    }

    private static String outcome(Supplier<Object> call) {
        try {
            return call.get().toString();
        } catch (RuntimeException e) {
            return "throws " + e.getClass().getName();
        }
    }
}
