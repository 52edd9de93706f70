/** Promise 6: delivers. */
public final class Promise6DeliversTest {
    private static final Checks CHECKS = new Checks();

    private Promise6DeliversTest() {
    }

    public static void main(String[] args) {
        highestPriority();
        eachLine();
        none();
        notReady();
        blocked();
        blockedByTurnedPriorities();
        specialMask();
        specialNesting();
        specialNestingBlocksTheOthers();
        specialNestingOfTheHelperMeansNothing();
        askingChangesNothing();
        noSuchController();
        CHECKS.end();
    }

    private static void highestPriority() {
        CHECKS.sentence("The line that a controller delivers");
        LinePair pair = Pairs.ready();
        CHECKS.same("nothing", pair.delivers(0), LinePair.NONE);
        Pairs.raise(pair, 7, 5, 0);
        CHECKS.same("the chief's highest", pair.delivers(0), 0);
        Pairs.raise(pair, 14, 11);
        CHECKS.same("the helper's highest by its own number", pair.delivers(1), 3);
        pair.write(Pairs.CHIEF, 1, 1);
        CHECKS.same("line 2 comes before 5", pair.delivers(0), 2);
        pair.write(Pairs.CHIEF, 0, Pairs.TURN + 5);
        CHECKS.same("turned", pair.delivers(0), 7);
    }

    private static void eachLine() {
        CHECKS.sentence("The line that a controller delivers (each, by the controller's own number)");
        for (int controller = 0; controller <= 1; controller++) {
            for (int line = 0; line <= 7; line++) {
                LinePair pair = Pairs.ready();
                Pairs.move(pair, controller, line, true);
                CHECKS.same("delivers(" + controller + ")", pair.delivers(controller), line);
                boolean line2 = controller == Pairs.HELPER;
                CHECKS.same("the other", pair.delivers(1 - controller),
                        line2 ? 2 : line == 2 ? 0 : LinePair.NONE);
            }
        }
    }

    private static void none() {
        CHECKS.sentence("NONE");
        for (int controller = 0; controller <= 1; controller++) {
            CHECKS.same("of a new object", new LinePair().delivers(controller), -1);
            LinePair pair = Pairs.ready();
            CHECKS.same("with nothing requested", pair.delivers(controller), -1);
            pair.line(8 * controller, true);
            pair.write(controller, 1, 1);
            CHECKS.same("with all masked", pair.delivers(controller), -1);
            pair.write(controller, 1, 0);
            CHECKS.same("with line 0", pair.delivers(controller), 0);
            pair.line(8 * controller, false);
            CHECKS.same("with line 0 down", pair.delivers(controller), -1);
            pair.line(8 * controller, true);
            Pairs.poll(pair, controller);
            CHECKS.same("with line 0 taken", pair.delivers(controller), -1);
            pair.line(8 * controller + 7, true);
            CHECKS.same("with line 7 blocked", pair.delivers(controller), -1);
        }
    }

    private static void notReady() {
        CHECKS.sentence("A controller that is not READY delivers nothing.");
        LinePair pair = new LinePair();
        Pairs.raise(pair, 1, 9);
        CHECKS.same("chief", pair.delivers(0), LinePair.NONE);
        CHECKS.same("helper", pair.delivers(1), LinePair.NONE);
        pair.write(Pairs.HELPER, 0, 0x19);
        pair.write(Pairs.HELPER, 1, 0);
        pair.write(Pairs.HELPER, 1, 0);
        CHECKS.same("one word awaited", pair.delivers(1), LinePair.NONE);
        pair.write(Pairs.HELPER, 1, 0);
        CHECKS.same("ready", pair.delivers(1), 1);
    }

    private static void blocked() {
        CHECKS.sentence("if none that BLOCKS has the same or a higher priority");
        LinePair pair = Pairs.ready(Pairs.LEVELS, Pairs.PLAIN, Pairs.EDGES, Pairs.PLAIN);
        Pairs.raise(pair, 3);
        pair.take();
        CHECKS.same("the same priority", pair.delivers(0), LinePair.NONE);
        Pairs.raise(pair, 4);
        CHECKS.same("a lower priority", pair.delivers(0), LinePair.NONE);
        Pairs.raise(pair, 1);
        CHECKS.same("a higher priority", pair.delivers(0), 1);
        pair.write(Pairs.CHIEF, 1, 0x0A);
        CHECKS.same("a masked line in service blocks", pair.delivers(0), LinePair.NONE);
    }

    private static void blockedByTurnedPriorities() {
        CHECKS.sentence("if none that BLOCKS has the same or a higher priority (turned)");
        LinePair pair = Pairs.ready();
        pair.write(Pairs.CHIEF, 0, Pairs.TURN + 4);
        Pairs.raise(pair, 0);
        pair.take();
        Pairs.raise(pair, 1);
        CHECKS.same("1 is behind 0", pair.delivers(0), LinePair.NONE);
        Pairs.raise(pair, 4);
        CHECKS.same("4 is the lowest", pair.delivers(0), LinePair.NONE);
        Pairs.raise(pair, 5);
        CHECKS.same("5 is the highest", pair.delivers(0), 5);
    }

    private static void specialMask() {
        CHECKS.sentence("with SPECIAL MASK only those of them that are not masked");
        LinePair pair = Pairs.ready();
        Pairs.raise(pair, 3);
        pair.take();
        Pairs.raise(pair, 6);
        pair.write(Pairs.CHIEF, 0, Pairs.SPECIAL_MASK_ON);
        CHECKS.same("3 is not masked", pair.delivers(0), LinePair.NONE);
        pair.write(Pairs.CHIEF, 1, 8);
        CHECKS.same("3 is masked", pair.delivers(0), 6);
        pair.write(Pairs.CHIEF, 1, 0x48);
        CHECKS.same("6 is masked too", pair.delivers(0), LinePair.NONE);
        pair.write(Pairs.CHIEF, 1, 8);
        pair.write(Pairs.CHIEF, 0, Pairs.SPECIAL_MASK_OFF);
        CHECKS.same("off", pair.delivers(0), LinePair.NONE);
    }

    private static void specialNesting() {
        CHECKS.sentence("with SPECIAL NESTING the chief's line 2 does not block itself");
        LinePair pair = Pairs.ready(Pairs.EDGES, Pairs.SPECIAL_NESTING, Pairs.EDGES, Pairs.PLAIN);
        Pairs.raise(pair, 12);
        pair.take();
        CHECKS.same("nothing to deliver", pair.delivers(0), LinePair.NONE);
        Pairs.raise(pair, 9);
        CHECKS.same("line 2 does not block itself", pair.delivers(0), 2);
        Pairs.raise(pair, 1);
        pair.take();
        CHECKS.same("another line blocks it", pair.delivers(0), LinePair.NONE);
    }

    private static void specialNestingBlocksTheOthers() {
        CHECKS.sentence("with SPECIAL NESTING [...] itself (and no other)");
        LinePair pair = Pairs.ready(Pairs.LEVELS, Pairs.SPECIAL_NESTING, Pairs.EDGES, Pairs.PLAIN);
        Pairs.raise(pair, 12);
        pair.take();
        Pairs.raise(pair, 3);
        CHECKS.same("line 2 blocks a lower one", pair.delivers(0), LinePair.NONE);
        Pairs.raise(pair, 1);
        pair.take();
        CHECKS.same("another line blocks itself", pair.delivers(0), LinePair.NONE);
    }

    private static void specialNestingOfTheHelperMeansNothing() {
        CHECKS.sentence("with SPECIAL NESTING the chief's line 2 (not the helper's)");
        LinePair pair = Pairs.ready(Pairs.EDGES, Pairs.PLAIN, Pairs.LEVELS, Pairs.SPECIAL_NESTING);
        Pairs.raise(pair, 10);
        pair.take();
        CHECKS.same("the helper's line 2 blocks itself", pair.delivers(1), LinePair.NONE);
        CHECKS.same("the mode is on", pair.mode(1, 3), true);
    }

    private static void askingChangesNothing() {
        CHECKS.sentence("The line that a controller delivers (asking takes nothing)");
        LinePair pair = Pairs.ready();
        Pairs.raise(pair, 9, 4);
        String before = Pairs.stateOf(pair);
        pair.delivers(0);
        pair.delivers(1);
        CHECKS.same("state", Pairs.stateOf(pair), before);
    }

    private static void noSuchController() {
        CHECKS.sentence("NoSuchElementException.");
        for (int wrong : new int[] {-1, 2, Integer.MIN_VALUE, Integer.MAX_VALUE}) {
            CHECKS.noSuchElement("delivers(" + wrong + ")", Promise6DeliversTest::delivering,
                    pair -> pair.delivers(wrong));
        }
    }

    private static LinePair delivering() {
        LinePair pair = Pairs.ready();
        Pairs.raise(pair, 9);
        return pair;
    }
}
