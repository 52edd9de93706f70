/** Terms: the lines, the chief's line 2, and when a line is requested. */
public final class TermsLinesTest {
    private static final Checks CHECKS = new Checks();

    private TermsLinesTest() {
    }

    public static void main(String[] args) {
        whoseLinesTheyAre();
        downAtFirst();
        eachControllerHasItsOwn();
        line2IsUpWhenAHelpersLineIs();
        line2FollowsTheHelpersMasks();
        line2FollowsTheHelpersService();
        line2FollowsTheHelpersBeginning();
        line2FollowsTheHelpersPriorities();
        line2FollowsTheHelpersPoll();
        line2HasEdgesOfItsOwn();
        requestedByLevels();
        byEdgesAtFirst();
        requestedByEdgesWhateverElse();
        requestedByEdgesUntilDown();
        requestedByEdgesUntilTaken();
        CHECKS.end();
    }

    private static void whoseLinesTheyAre() {
        CHECKS.sentence("LINES 0 .. 7 are the chief's, 8 .. 15 the helper's (its 0 .. 7)");
        for (int k = 0; k <= 15; k++) {
            if (k != 2) {
                LinePair pair = new LinePair();
                pair.line(k, true);
                CHECKS.same("the chief's lines up with " + k, pair.about(0, 3), k <= 7 ? 1 << k : 0);
                CHECKS.same("the helper's lines up with " + k, pair.about(1, 3), k <= 7 ? 0 : 1 << (k - 8));
            }
        }
    }

    private static void downAtFirst() {
        CHECKS.sentence("each is up or down (down at first)");
        LinePair pair = new LinePair();
        CHECKS.same("the chief's lines up", pair.about(0, 3), 0);
        CHECKS.same("the helper's lines up", pair.about(1, 3), 0);
        for (int k = 0; k <= 15; k++) {
            if (k != 2) {
                CHECKS.same("line " + k + " was up", new LinePair().line(k, false), false);
            }
        }
    }

    private static void eachControllerHasItsOwn() {
        CHECKS.sentence("Each controller has for its lines 0 .. 7: "
                + "whether one is REQUESTED, IN SERVICE, MASKED; the LOWEST");
        String untouched = Pairs.stateOf(Pairs.ready(), Pairs.CHIEF);
        LinePair helpers = Pairs.ready();
        Pairs.serve(helpers, Pairs.HELPER, 3);
        Pairs.raise(helpers, 14);
        helpers.write(Pairs.HELPER, 1, 0x81);
        helpers.write(Pairs.HELPER, 0, Pairs.TURN + 5);
        helpers.write(Pairs.HELPER, 1, 0xC1);
        CHECKS.same("the chief", Pairs.stateOf(helpers, Pairs.CHIEF), untouched);
        LinePair chiefs = Pairs.ready();
        Pairs.serve(chiefs, Pairs.CHIEF, 3);
        Pairs.raise(chiefs, 6);
        chiefs.write(Pairs.CHIEF, 1, 0x81);
        chiefs.write(Pairs.CHIEF, 0, Pairs.TURN + 5);
        CHECKS.same("the helper", Pairs.stateOf(chiefs, Pairs.HELPER), Pairs.stateOf(Pairs.ready(), Pairs.HELPER));
    }

    private static void line2Is(String when, LinePair pair, boolean up) {
        CHECKS.same("line 2 is up " + when, pair.about(0, 3) & 4, up ? 4 : 0);
        CHECKS.same("the helper delivers " + when, pair.delivers(1) != LinePair.NONE, up);
    }

    private static void line2IsUpWhenAHelpersLineIs() {
        CHECKS.sentence("The chief's line 2 is nobody's: it is up while the helper DELIVERS. (by the helper's lines)");
        for (int k = 8; k <= 15; k++) {
            LinePair pair = Pairs.ready();
            line2Is("with nothing", pair, false);
            Pairs.raise(pair, k);
            line2Is("with " + k, pair, true);
            Pairs.lower(pair, k);
            line2Is("without " + k, pair, false);
        }
        for (int k = 0; k <= 7; k++) {
            LinePair pair = Pairs.ready();
            if (k != 2) {
                Pairs.raise(pair, k);
            }
            line2Is("with the chief's " + k, pair, false);
        }
    }

    private static void line2FollowsTheHelpersMasks() {
        CHECKS.sentence("it is up while the helper DELIVERS (by the helper's masks)");
        LinePair pair = Pairs.ready();
        Pairs.raise(pair, 8);
        pair.write(Pairs.HELPER, 1, 0x01);
        line2Is("when masked", pair, false);
        pair.write(Pairs.HELPER, 1, 0xFE);
        line2Is("when not masked", pair, true);
        pair.write(Pairs.CHIEF, 1, 0xFF);
        line2Is("when masked by the chief", pair, true);
        CHECKS.same("the chief delivers it", pair.delivers(0), LinePair.NONE);
    }

    private static void line2FollowsTheHelpersService() {
        CHECKS.sentence("it is up while the helper DELIVERS (by what blocks in the helper)");
        LinePair pair = Pairs.byLevels();
        Pairs.raise(pair, 12);
        pair.take();
        line2Is("when 4 blocks itself", pair, false);
        pair.write(Pairs.HELPER, 0, Pairs.END_HIGHEST);
        line2Is("when 4 has ended", pair, true);
        Pairs.poll(pair, Pairs.HELPER);
        Pairs.raise(pair, 14);
        line2Is("when 4 blocks 6", pair, false);
        pair.write(Pairs.HELPER, 0, Pairs.SPECIAL_MASK_ON);
        line2Is("with special mask and no mask", pair, false);
        pair.write(Pairs.HELPER, 1, 0x10);
        line2Is("with special mask and 4 masked", pair, true);
        pair.write(Pairs.HELPER, 0, Pairs.SPECIAL_MASK_OFF);
        line2Is("without special mask", pair, false);
        pair.write(Pairs.CHIEF, 0, Pairs.END_LINE + 2);
        line2Is("when the chief ends line 2", pair, false);
    }

    private static void line2FollowsTheHelpersBeginning() {
        CHECKS.sentence("it is up while the helper DELIVERS (by the helper's beginning)");
        LinePair pair = new LinePair();
        Pairs.raise(pair, 11);
        line2Is("before a beginning", pair, false);
        pair.write(Pairs.HELPER, 0, Pairs.LEVELS);
        line2Is("behind the first word", pair, false);
        pair.write(Pairs.HELPER, 1, 0);
        line2Is("behind the second", pair, false);
        pair.write(Pairs.HELPER, 1, 0);
        line2Is("behind the third", pair, false);
        pair.write(Pairs.HELPER, 1, 0);
        line2Is("behind the fourth", pair, true);
        Pairs.begin(pair, Pairs.CHIEF, Pairs.EDGES, Pairs.PLAIN);
        line2Is("behind a beginning of the chief", pair, true);
        pair.write(Pairs.HELPER, 0, Pairs.EDGES);
        line2Is("from another beginning on", pair, false);
    }

    private static void line2FollowsTheHelpersPriorities() {
        CHECKS.sentence("it is up while the helper DELIVERS (by the helper's priorities)");
        LinePair pair = Pairs.ready();
        Pairs.serve(pair, Pairs.HELPER, 4);
        Pairs.raise(pair, 14);
        line2Is("when 6 is lower than 4", pair, false);
        pair.write(Pairs.HELPER, 0, Pairs.TURN + 5);
        line2Is("when 6 is higher than 4", pair, true);
        pair.write(Pairs.HELPER, 0, Pairs.TURN + 6);
        line2Is("when 6 is the lowest", pair, false);
    }

    private static void line2FollowsTheHelpersPoll() {
        CHECKS.sentence("it is up while the helper DELIVERS (by polls)");
        LinePair pair = Pairs.ready();
        Pairs.raise(pair, 12);
        pair.write(Pairs.HELPER, 0, Pairs.POLL);
        line2Is("when a poll waits", pair, true);
        pair.read(Pairs.HELPER, 0);
        line2Is("behind the poll", pair, false);
        Pairs.raise(pair, 9);
        Pairs.poll(pair, Pairs.CHIEF);
        line2Is("behind a poll of the chief", pair, true);
    }

    private static void line2HasEdgesOfItsOwn() {
        CHECKS.sentence("requested from when it comes up, until it goes down or is taken (line 2)");
        LinePair pair = Pairs.ready();
        Pairs.raise(pair, 12);
        CHECKS.same("requested when it comes up", pair.about(0, 0), 4);
        Pairs.raise(pair, 9);
        CHECKS.same("requested when the helper delivers another", pair.about(0, 0), 4);
        CHECKS.same("poll", Pairs.poll(pair, Pairs.CHIEF), 130);
        CHECKS.same("requested when taken", pair.about(0, 0), 0);
        Pairs.lower(pair, 9);
        CHECKS.same("requested when it stays up", pair.about(0, 0), 0);
        Pairs.lower(pair, 12);
        Pairs.raise(pair, 12);
        CHECKS.same("requested when it comes up anew", pair.about(0, 0), 4);
        Pairs.lower(pair, 12);
        CHECKS.same("requested when it goes down", pair.about(0, 0), 0);
    }

    private static void requestedByLevels() {
        CHECKS.sentence("By LEVELS a line is requested while it is up.");
        for (int controller = 0; controller <= 1; controller++) {
            for (int line = 0; line <= 7; line++) {
                LinePair pair = Pairs.byLevels();
                Pairs.move(pair, controller, line, true);
                CHECKS.same("requested when " + line + " is up", pair.about(controller, 0), 1 << line);
                CHECKS.same("poll", Pairs.poll(pair, controller), 128 + line);
                CHECKS.same("requested when " + line + " is taken", pair.about(controller, 0), 1 << line);
                Pairs.move(pair, controller, line, false);
                CHECKS.same("requested when " + line + " is down", pair.about(controller, 0), 0);
            }
        }
        LinePair early = new LinePair();
        Pairs.raise(early, 0, 7, 8, 15);
        early.write(Pairs.CHIEF, 0, Pairs.LEVELS);
        early.write(Pairs.HELPER, 0, Pairs.LEVELS);
        CHECKS.same("requested of the lines that were up before", early.about(0, 0), 0x81);
        CHECKS.same("requested of the helper's", early.about(1, 0), 0x81);
    }

    private static void byEdgesAtFirst() {
        CHECKS.sentence("By EDGES (at first)");
        for (int k = 0; k <= 15; k++) {
            if (k != 2) {
                LinePair pair = new LinePair();
                CHECKS.same("by levels", pair.mode(k / 8, 1), false);
                pair.line(k, true);
                CHECKS.same("requested with " + k, pair.about(k / 8, 0), 1 << k % 8);
                pair.write(k / 8, 0, Pairs.EDGES);
                CHECKS.same("requested behind a beginning, still up", pair.about(k / 8, 0), 0);
                CHECKS.same("up", pair.about(k / 8, 3), 1 << k % 8);
            }
        }
    }

    private static void requestedByEdgesWhateverElse() {
        CHECKS.sentence("requested from when it comes up (masked, in service, blocked or with words awaited)");
        for (int controller = 0; controller <= 1; controller++) {
            for (int line = 0; line <= 7; line++) {
                LinePair pair = Pairs.ready();
                pair.write(controller, 1, 255);
                Pairs.move(pair, controller, line, true);
                CHECKS.same("requested when masked", pair.about(controller, 0), 1 << line);
                pair.write(controller, 1, 0);
                CHECKS.same("requested when masked no more", pair.about(controller, 0), 1 << line);
                Pairs.poll(pair, controller);
                Pairs.move(pair, controller, line, false);
                Pairs.move(pair, controller, line, true);
                CHECKS.same("requested when in service", pair.about(controller, 0), 1 << line);
                pair.write(controller, 0, Pairs.EDGES);
                Pairs.move(pair, controller, line, false);
                Pairs.move(pair, controller, line, true);
                CHECKS.same("requested when words are awaited", pair.about(controller, 0), 1 << line);
            }
        }
    }

    private static void requestedByEdgesUntilDown() {
        CHECKS.sentence("requested from when it comes up, until it goes down");
        for (int controller = 0; controller <= 1; controller++) {
            for (int line = 0; line <= 7; line++) {
                LinePair pair = Pairs.ready();
                CHECKS.same("requested before", pair.about(controller, 0), 0);
                Pairs.move(pair, controller, line, true);
                CHECKS.same("requested when " + line + " came up", pair.about(controller, 0), 1 << line);
                Pairs.move(pair, controller, line, true);
                CHECKS.same("requested when " + line + " stays up", pair.about(controller, 0), 1 << line);
                Pairs.move(pair, controller, line, false);
                CHECKS.same("requested when " + line + " went down", pair.about(controller, 0), 0);
            }
        }
    }

    private static void requestedByEdgesUntilTaken() {
        CHECKS.sentence("requested from when it comes up, until it [...] is taken");
        for (int controller = 0; controller <= 1; controller++) {
            for (int line = 0; line <= 7; line++) {
                LinePair pair = Pairs.ready();
                Pairs.move(pair, controller, line, true);
                CHECKS.same("poll", Pairs.poll(pair, controller), 128 + line);
                CHECKS.same("requested when " + line + " is taken", pair.about(controller, 0), 0);
                CHECKS.same("up when " + line + " is taken", pair.about(controller, 3), 1 << line);
                Pairs.move(pair, controller, line, true);
                CHECKS.same("requested when " + line + " stays up", pair.about(controller, 0), 0);
                Pairs.move(pair, controller, line, false);
                Pairs.move(pair, controller, line, true);
                CHECKS.same("requested when " + line + " comes up anew", pair.about(controller, 0), 1 << line);
            }
        }
    }
}
