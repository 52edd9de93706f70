/** Promise 7: about. */
public final class Promise7AboutTest {
    private static final Checks CHECKS = new Checks();

    private Promise7AboutTest() {
    }

    public static void main(String[] args) {
        ofEachController();
        eachAlone();
        everySetOfLines();
        wordAwaited();
        wordAwaitedIsNoneWithoutABeginning();
        askingChangesNothing();
        noSuchControllers();
        noneOfThese();
        CHECKS.end();
    }

    private static void ofEachController() {
        CHECKS.sentence("Of a controller: 0 lines requested, 1 in service, 2 masked, 3 up (as bits), "
                + "4 the lowest, 5 its base, [...] 7 READ");
        LinePair pair = Pairs.ready();
        Pairs.raise(pair, 4);
        pair.take();
        Pairs.raise(pair, 5, 6);
        pair.write(Pairs.CHIEF, 1, 0x88);
        pair.write(Pairs.CHIEF, 0, Pairs.TURN + 3);
        pair.write(Pairs.CHIEF, 0, Pairs.READ_IN_SERVICE);
        Pairs.raise(pair, 13);
        pair.write(Pairs.HELPER, 0, Pairs.POLL);
        pair.read(Pairs.HELPER, 0);
        Pairs.raise(pair, 8, 9);
        pair.write(Pairs.HELPER, 1, 0x40);
        pair.write(Pairs.HELPER, 0, Pairs.TURN + 6);
        int[] chief = {0x64, 0x10, 0x88, 0x74, 3, Pairs.CHIEF_BASE, 0, 1};
        int[] helper = {0x03, 0x20, 0x40, 0x23, 6, Pairs.HELPER_BASE, 0, 0};
        for (int what = 0; what <= 7; what++) {
            CHECKS.same("about(0, " + what + ")", pair.about(0, what), chief[what]);
            CHECKS.same("about(1, " + what + ")", pair.about(1, what), helper[what]);
        }
    }

    /** Each of the eight is moved by itself, the other controller's stay. */
    private static void eachAlone() {
        CHECKS.sentence("Of a controller (each of the eight, of this controller)");
        for (int controller = 0; controller <= 1; controller++) {
            LinePair pair = Pairs.ready();
            int base = pair.about(controller, 5);
            pair.write(1 - controller, 1, 4);
            aboutIs(pair, controller, 0, 0, 0, 0, 7, base, 0, 0);
            pair.line(8 * controller + 6, true);
            aboutIs(pair, controller, 64, 0, 0, 64, 7, base, 0, 0);
            Pairs.poll(pair, controller);
            aboutIs(pair, controller, 0, 64, 0, 64, 7, base, 0, 0);
            pair.line(8 * controller + 6, false);
            aboutIs(pair, controller, 0, 64, 0, 0, 7, base, 0, 0);
            pair.write(controller, 1, 129);
            aboutIs(pair, controller, 0, 64, 129, 0, 7, base, 0, 0);
            pair.write(controller, 0, Pairs.TURN);
            aboutIs(pair, controller, 0, 64, 129, 0, 0, base, 0, 0);
            pair.write(controller, 0, Pairs.READ_IN_SERVICE);
            aboutIs(pair, controller, 0, 64, 129, 0, 0, base, 0, 1);
            pair.write(controller, 0, Pairs.EDGES);
            aboutIs(pair, controller, 0, 0, 0, 0, 7, base, 2, 0);
            pair.write(controller, 1, 255);
            aboutIs(pair, controller, 0, 0, 0, 0, 7, 248, 3, 0);
        }
    }

    private static void aboutIs(LinePair pair, int controller, int... due) {
        for (int what = 0; what <= 7; what++) {
            CHECKS.same("about(" + controller + ", " + what + ")", pair.about(controller, what), due[what]);
            int[] others = {0, 0, 4, 0, 7, controller == Pairs.CHIEF ? Pairs.HELPER_BASE : Pairs.CHIEF_BASE, 0, 0};
            boolean line2 = controller == Pairs.HELPER && (what == 0 || what == 3);
            if (!line2) {
                CHECKS.same("the other's " + what, pair.about(1 - controller, what), others[what]);
            }
        }
    }

    private static void everySetOfLines() {
        CHECKS.sentence("0 lines requested, 1 in service, 2 masked, 3 up (as bits) (every set)");
        for (int controller = 0; controller <= 1; controller++) {
            for (int set = 0; set <= 255; set++) {
                LinePair pair = Pairs.byLevels();
                for (int line = 7; line >= 0; line--) {
                    if ((set >> line & 1) != 0) {
                        Pairs.serve(pair, controller, line);
                    }
                }
                for (int line = 0; line <= 7; line++) {
                    Pairs.move(pair, controller, line, (set >> line & 1) == 0);
                }
                pair.write(controller, 1, set ^ 0x5A);
                CHECKS.same("requested", pair.about(controller, 0), 255 - set);
                CHECKS.same("in service", pair.about(controller, 1), set);
                CHECKS.same("masked", pair.about(controller, 2), set ^ 0x5A);
                CHECKS.same("up", pair.about(controller, 3), 255 - set);
            }
        }
    }

    private static void wordAwaitedIsNoneWithoutABeginning() {
        CHECKS.sentence("6 the word awaited (2 .. 4; 0: none) (without a fourth, and without a beginning)");
        for (int controller = 0; controller <= 1; controller++) {
            LinePair pair = new LinePair();
            for (int word = 0; word <= 3; word++) {
                pair.write(controller, 1, 255);
                CHECKS.same("before it began", pair.about(controller, 6), 0);
            }
            pair.write(controller, 0, 0x10);
            for (int awaited : new int[] {2, 3, 0, 0}) {
                CHECKS.same("without a fourth", pair.about(controller, 6), awaited);
                pair.write(controller, 1, 255);
            }
        }
    }

    private static void askingChangesNothing() {
        CHECKS.sentence("Of a controller: (asking changes nothing)");
        LinePair asked = Pairs.ready();
        LinePair neverAsked = Pairs.ready();
        for (LinePair pair : new LinePair[] {asked, neverAsked}) {
            Pairs.raise(pair, 5, 13);
            pair.write(Pairs.CHIEF, 0, Pairs.POLL);
            pair.write(Pairs.HELPER, 0, Pairs.POLL);
        }
        for (int times = 0; times < 3; times++) {
            Pairs.stateOf(asked);
        }
        CHECKS.same("the state", Pairs.stateOf(asked), Pairs.stateOf(neverAsked));
        CHECKS.same("later answers", Pairs.laterAnswersOf(asked), Pairs.laterAnswersOf(neverAsked));
    }

    private static void wordAwaited() {
        CHECKS.sentence("6 the word awaited (2 .. 4; 0: none)");
        LinePair pair = new LinePair();
        pair.write(Pairs.HELPER, 0, 0x11);
        for (int word : new int[] {2, 3, 4, 0, 0}) {
            CHECKS.same("about(1, 6)", pair.about(1, 6), word);
            CHECKS.same("about(0, 6)", pair.about(0, 6), 0);
            pair.write(Pairs.HELPER, 1, 0);
        }
    }

    private static void noSuchControllers() {
        CHECKS.sentence("NoSuchElementException");
        for (int wrong : new int[] {-1, 2, Integer.MIN_VALUE, Integer.MAX_VALUE}) {
            CHECKS.noSuchElement("about(" + wrong + ", 0)", Pairs::ready, pair -> pair.about(wrong, 0));
        }
        CHECKS.noSuchElement("about(2, 8)", Pairs::ready, pair -> pair.about(2, 8));
    }

    private static void noneOfThese() {
        CHECKS.sentence("IllegalArgumentException: none of these.");
        for (int wrong : new int[] {-1, 8, Integer.MIN_VALUE, Integer.MAX_VALUE}) {
            CHECKS.illegalArgument("about(0, " + wrong + ")", Pairs::ready, pair -> pair.about(0, wrong));
            CHECKS.illegalArgument("about(1, " + wrong + ")", Pairs::ready, pair -> pair.about(1, wrong));
        }
    }
}
