/** Long mixed runs of calls, every answer of which is compared with the model's. */
public final class ModelTest {
    private static final int RUNS = 4000;
    private static final int CALLS_OF_AN_OBJECT = 512;
    private static final int CALLS_OF_A_LOOK = 35;
    private static final int CALLS_BETWEEN_LOOKS = 6;
    private static final Checks CHECKS = new Checks();

    // A fixed seed: every run of the test makes the same calls.
    private static long seed = 20_261;

    private ModelTest() {
    }

    public static void main(String[] args) {
        for (int run = 0; run < RUNS; run++) {
            runOnce(run);
        }
        CHECKS.end();
    }

    private static void runOnce(int run) {
        LinePair pair = new LinePair();
        Model model = new Model();
        int calls = 0;
        if (below(4) != 0) {
            calls += beginBoth(pair, model);
        }
        while (calls + CALLS_BETWEEN_LOOKS + CALLS_OF_A_LOOK <= CALLS_OF_AN_OBJECT) {
            for (int i = 0; i < CALLS_BETWEEN_LOOKS; i++) {
                call(run, pair, model);
            }
            look(run, pair, model);
            calls += CALLS_BETWEEN_LOOKS + CALLS_OF_A_LOOK;
        }
    }

    private static int beginBoth(LinePair pair, Model model) {
        int calls = 0;
        for (int controller = 0; controller <= 1; controller++) {
            write(pair, model, controller, 0, 0x11 | below(2) << 3);
            write(pair, model, controller, 1, below(256));
            write(pair, model, controller, 1, below(256));
            write(pair, model, controller, 1, below(256));
            calls += 4;
        }
        return calls;
    }

    private static void call(int run, LinePair pair, Model model) {
        String name = "run " + run;
        int kind = below(20);
        if (kind < 9) {
            int k = below(16);
            boolean up = below(3) != 0;
            if (k != 2) {
                CHECKS.same(name + " line(" + k + ", " + up + ")", pair.line(k, up), model.line(k, up));
            }
        } else if (kind < 12) {
            CHECKS.same(name + " take()", pair.take(), model.take());
        } else if (kind < 14) {
            int controller = below(2);
            int port = below(5) / 4;
            CHECKS.same(name + " read(" + controller + ", " + port + ")",
                    pair.read(controller, port), model.read(controller, port));
        } else if (kind < 16) {
            write(pair, model, below(2), 1, below(256) & below(256));
        } else {
            write(pair, model, below(2), 0, wordForPort0());
        }
    }

    /** Any word, but seldom one that begins: it would forget what the run has come to. */
    private static int wordForPort0() {
        int word = below(256);
        return below(12) == 0 ? word : word & ~16;
    }

    private static void write(LinePair pair, Model model, int controller, int port, int word) {
        CHECKS.same("write(" + controller + ", " + port + ", " + word + ")",
                pair.write(controller, port, word), model.write(controller, port, word));
    }

    private static void look(int run, LinePair pair, Model model) {
        for (int controller = 0; controller <= 1; controller++) {
            String name = "run " + run + " controller " + controller;
            CHECKS.same(name + " delivers", pair.delivers(controller), model.delivers(controller));
            for (int what = 0; what <= 7; what++) {
                CHECKS.same(name + " about " + what, pair.about(controller, what), model.about(controller, what));
            }
            for (int which = 0; which <= 6; which++) {
                CHECKS.same(name + " mode " + which, pair.mode(controller, which), model.mode(controller, which));
            }
        }
        for (int what = 0; what <= 2; what++) {
            CHECKS.same("run " + run + " count " + what, pair.count(what), model.count(what));
        }
    }

    private static int below(int bound) {
        seed = seed * 6_364_136_223_846_793_005L + 1_442_695_040_888_963_407L;
        return (int) ((seed >>> 33) % bound);
    }
}
