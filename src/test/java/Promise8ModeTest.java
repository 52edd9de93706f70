/** Promise 8: mode. */
public final class Promise8ModeTest {
    private static final Checks CHECKS = new Checks();

    private Promise8ModeTest() {
    }

    public static void main(String[] args) {
        CHECKS.sentence("Whether a controller has a mode: 0 ready, 1 by levels, 2 special mask, 3 special nesting, "
                + "4 ends at once, 5 turns at once, 6 a poll waits.");
        for (int controller = 0; controller <= 1; controller++) {
            eachAlone(controller);
        }
        allTogether();
        noSuchControllers();
        noneOfThese();
        CHECKS.end();
    }

    private static void eachAlone(int controller) {
        LinePair pair = new LinePair();
        modesAre(pair, controller, "0000000");
        pair.write(controller, 0, Pairs.LEVELS);
        modesAre(pair, controller, "0100000");
        pair.write(controller, 0, Pairs.EDGES);
        modesAre(pair, controller, "0000000");
        pair.write(controller, 0, Pairs.SPECIAL_MASK_ON);
        modesAre(pair, controller, "0010000");
        pair.write(controller, 0, Pairs.SPECIAL_MASK_OFF);
        pair.write(controller, 0, Pairs.TURNS_AT_ONCE_ON);
        modesAre(pair, controller, "0000010");
        pair.write(controller, 0, Pairs.TURNS_AT_ONCE_OFF);
        pair.write(controller, 0, Pairs.POLL);
        modesAre(pair, controller, "0000001");
        pair.read(controller, 0);
        modesAre(pair, controller, "0000000");
        Pairs.begin(pair, controller, Pairs.EDGES, Pairs.PLAIN);
        modesAre(pair, controller, "1000000");
        Pairs.begin(pair, controller, Pairs.EDGES, Pairs.SPECIAL_NESTING);
        modesAre(pair, controller, "1001000");
        Pairs.begin(pair, controller, Pairs.EDGES, Pairs.ENDS_AT_ONCE);
        modesAre(pair, controller, "1000100");
        pair.write(controller, 0, 0x10);
        modesAre(pair, controller, "0000000");
    }

    private static void allTogether() {
        CHECKS.sentence("Whether a controller has a mode (all of them at once)");
        for (int controller = 0; controller <= 1; controller++) {
            LinePair pair = new LinePair();
            Pairs.begin(pair, controller, Pairs.LEVELS, 0xFF);
            pair.write(controller, 0, 0x6C);
            pair.write(controller, 0, Pairs.TURNS_AT_ONCE_ON);
            modesAre(pair, controller, "1111111");
        }
    }

    private static void modesAre(LinePair pair, int controller, String due) {
        for (int which = 0; which <= 6; which++) {
            CHECKS.same("mode(" + controller + ", " + which + ") of " + due,
                    pair.mode(controller, which), due.charAt(which) == '1');
            CHECKS.same("the other's mode " + which, pair.mode(1 - controller, which), false);
        }
    }

    private static void noSuchControllers() {
        CHECKS.sentence("NoSuchElementException");
        for (int wrong : new int[] {-1, 2, Integer.MIN_VALUE, Integer.MAX_VALUE}) {
            CHECKS.noSuchElement("mode(" + wrong + ", 0)", Pairs::ready, pair -> pair.mode(wrong, 0));
        }
        CHECKS.noSuchElement("mode(2, 7)", Pairs::ready, pair -> pair.mode(2, 7));
    }

    private static void noneOfThese() {
        CHECKS.sentence("IllegalArgumentException: none of these.");
        for (int wrong : new int[] {-1, 7, Integer.MIN_VALUE, Integer.MAX_VALUE}) {
            CHECKS.illegalArgument("mode(0, " + wrong + ")", Pairs::ready, pair -> pair.mode(0, wrong));
            CHECKS.illegalArgument("mode(1, " + wrong + ")", Pairs::ready, pair -> pair.mode(1, wrong));
        }
    }
}
