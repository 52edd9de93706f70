/** Long mixed runs of calls, up to the last that an object is used for; every answer is compared with the model's. */
public final class ModelTest {
    private static final int RUNS = 4000;
    private static final int CALLS_OF_A_LOOK = 35;
    private static final int CALLS_BETWEEN_LOOKS = 6;
    private static final int[] FAR_NUMBERS =
            {Integer.MIN_VALUE, Integer.MAX_VALUE, -1, 2, 3, 7, 8, 16, 255, 256, 257, 273};
    private static final Checks CHECKS = new Checks();

    // A fixed seed: every run of the test makes the same calls.
    private static long seed = 20_261;

    private ModelTest() {
    }

    public static void main(String[] args) {
        for (int run = 0; run < RUNS; run++) {
            runOnce(new Comparison(CHECKS, "run " + run));
        }
        CHECKS.end();
    }

    private static void runOnce(Comparison both) {
        if (below(4) != 0) {
            beginBoth(both);
        }
        while (both.callsLeft() >= CALLS_BETWEEN_LOOKS + CALLS_OF_A_LOOK) {
            for (int i = 0; i < CALLS_BETWEEN_LOOKS; i++) {
                call(both);
            }
            both.look();
        }
        while (both.callsLeft() > 0) {
            call(both);
        }
    }

    private static void beginBoth(Comparison both) {
        for (int controller = 0; controller <= 1; controller++) {
            both.write(controller, 0, 0x11 | below(2) << 3);
            for (int word = 2; word <= 4; word++) {
                both.write(controller, 1, below(256));
            }
        }
    }

    private static void call(Comparison both) {
        int kind = below(42);
        if (kind < 18) {
            both.line(below(16), below(3) != 0);
        } else if (kind < 24) {
            both.take();
        } else if (kind < 28) {
            both.read(below(2), below(5) / 4);
        } else if (kind < 32) {
            both.write(below(2), 1, below(256) & below(256));
        } else if (kind < 40) {
            both.write(below(2), 0, wordForPort0());
        } else if (kind == 40) {
            ask(both);
        } else {
            callWithFarNumbers(both);
        }
    }

    /** Any word, but seldom one that begins: it would forget what the run has come to. */
    private static int wordForPort0() {
        int word = below(256);
        return below(12) == 0 ? word : word & ~16;
    }

    private static void ask(Comparison both) {
        switch (below(4)) {
            case 0 -> both.delivers(below(2));
            case 1 -> both.about(below(2), below(8));
            case 2 -> both.mode(below(2), below(7));
            default -> both.count(below(3));
        }
    }

    private static void callWithFarNumbers(Comparison both) {
        switch (below(7)) {
            case 0 -> both.line(farOr(below(16)), below(2) == 0);
            case 1 -> both.write(farOr(below(2)), farOr(below(2)), farOr(below(256)));
            case 2 -> both.read(farOr(below(2)), farOr(below(2)));
            case 3 -> both.delivers(farOr(below(2)));
            case 4 -> both.about(farOr(below(2)), farOr(below(8)));
            case 5 -> both.mode(farOr(below(2)), farOr(below(7)));
            default -> both.count(farOr(below(3)));
        }
    }

    private static int farOr(int number) {
        return below(2) == 0 ? number : FAR_NUMBERS[below(FAR_NUMBERS.length)];
    }

    private static int below(int bound) {
        seed = seed * 6_364_136_223_846_793_005L + 1_442_695_040_888_963_407L;
        return (int) ((seed >>> 33) % bound);
    }
}
