/** Promise 2: line. */
public final class Promise2LineTest {
    private static final Checks CHECKS = new Checks();

    private Promise2LineTest() {
    }

    public static void main(String[] args) {
        answersWhetherItWasNotSo();
        answersOfEachLineAmongTheOthers();
        answersWhateverTheLineIsElse();
        edgeRequestLastsUntilDown();
        edgeRequestLastsUntilTaken();
        levelRequestLastsWhileUp();
        edgesCountBeforeABeginning();
        helperMovesTheChiefsLine2();
        line2StaysUpWhileTheHelperDeliversAnotherLine();
        noSuchLines();
        CHECKS.end();
    }

    private static void answersWhetherItWasNotSo() {
        CHECKS.sentence("A line comes up, or goes down: whether it was not so.");
        LinePair pair = new LinePair();
        for (int k = 0; k < 16; k++) {
            if (k == 2) {
                continue;
            }
            int controller = k / 8;
            CHECKS.same("up " + k, pair.line(k, true), true);
            CHECKS.same("lines up with " + k, pair.about(controller, 3), 1 << k % 8);
            CHECKS.same("lines up elsewhere", pair.about(1 - controller, 3), 0);
            CHECKS.same("up again " + k, pair.line(k, true), false);
            CHECKS.same("down " + k, pair.line(k, false), true);
            CHECKS.same("lines up without " + k, pair.about(controller, 3), 0);
            CHECKS.same("down again " + k, pair.line(k, false), false);
        }
    }

    private static void answersOfEachLineAmongTheOthers() {
        CHECKS.sentence("A line comes up, or goes down (it alone): whether it was not so.");
        LinePair pair = new LinePair();
        int[] up = {0, 0};
        for (int k = 15; k >= 0; k--) {
            if (k != 2) {
                CHECKS.same("up " + k, pair.line(k, true), true);
                up[k / 8] |= 1 << k % 8;
                CHECKS.same("the chief's up", pair.about(0, 3), up[0]);
                CHECKS.same("the helper's up", pair.about(1, 3), up[1]);
            }
        }
        for (int k = 15; k >= 0; k--) {
            if (k != 2) {
                CHECKS.same("up again " + k, pair.line(k, true), false);
                CHECKS.same("down " + k, pair.line(k, false), true);
                up[k / 8] &= ~(1 << k % 8);
                CHECKS.same("the chief's up", pair.about(0, 3), up[0]);
                CHECKS.same("the helper's up", pair.about(1, 3), up[1]);
            }
        }
    }

    private static void answersWhateverTheLineIsElse() {
        CHECKS.sentence("whether it was not so (taken, in service, masked or behind a beginning)");
        for (int k = 0; k <= 15; k++) {
            if (k != 2) {
                LinePair pair = Pairs.ready();
                pair.line(k, true);
                pair.take();
                CHECKS.same("taken, up again " + k, pair.line(k, true), false);
                CHECKS.same("in service, down " + k, pair.line(k, false), true);
                pair.write(k / 8, 1, 255);
                CHECKS.same("masked, down again " + k, pair.line(k, false), false);
                CHECKS.same("masked, up " + k, pair.line(k, true), true);
                Pairs.begin(pair, k / 8, Pairs.EDGES, Pairs.PLAIN);
                CHECKS.same("behind a beginning, up again " + k, pair.line(k, true), false);
                CHECKS.same("behind a beginning, requested", pair.about(k / 8, 0), 0);
                CHECKS.same("behind a beginning, down " + k, pair.line(k, false), true);
            }
        }
    }

    private static void edgeRequestLastsUntilDown() {
        CHECKS.sentence("By EDGES (at first) it is requested from when it comes up, until it goes down");
        LinePair pair = Pairs.ready();
        Pairs.raise(pair, 3, 5);
        CHECKS.same("requested", pair.about(0, 0), 0x28);
        Pairs.lower(pair, 3);
        CHECKS.same("requested when 3 is down", pair.about(0, 0), 0x20);
        CHECKS.same("delivers", pair.delivers(0), 5);
    }

    private static void edgeRequestLastsUntilTaken() {
        CHECKS.sentence("By EDGES (at first) it is requested from when it comes up, until it [...] is taken.");
        LinePair pair = Pairs.ready();
        Pairs.raise(pair, 3);
        pair.take();
        CHECKS.same("requested behind take", pair.about(0, 0), 0);
        CHECKS.same("up behind take", pair.about(0, 3), 8);
        Pairs.raise(pair, 3);
        CHECKS.same("a line that is up comes up no more", pair.about(0, 0), 0);
        Pairs.lower(pair, 3);
        Pairs.raise(pair, 3);
        CHECKS.same("a second edge", pair.about(0, 0), 8);
    }

    private static void levelRequestLastsWhileUp() {
        CHECKS.sentence("By LEVELS a line is requested while it is up.");
        LinePair pair = Pairs.ready(Pairs.LEVELS, Pairs.PLAIN, Pairs.LEVELS, Pairs.PLAIN);
        Pairs.raise(pair, 3);
        pair.take();
        CHECKS.same("requested behind take", pair.about(0, 0), 8);
        Pairs.lower(pair, 3);
        CHECKS.same("requested when down", pair.about(0, 0), 0);
    }

    private static void edgesCountBeforeABeginning() {
        CHECKS.sentence("By EDGES (at first) it is requested from when it comes up");
        LinePair pair = new LinePair();
        Pairs.raise(pair, 1, 15);
        CHECKS.same("chief's requested", pair.about(0, 0), 2);
        CHECKS.same("helper's requested", pair.about(1, 0), 128);
        CHECKS.same("chief's line 2 under a helper that is not ready", pair.about(0, 3), 2);
    }

    private static void helperMovesTheChiefsLine2() {
        CHECKS.sentence("The chief's line 2 is nobody's: it is up while the helper DELIVERS.");
        LinePair pair = Pairs.ready();
        Pairs.raise(pair, 10);
        CHECKS.same("chief's lines up", pair.about(0, 3), 4);
        CHECKS.same("chief's lines requested", pair.about(0, 0), 4);
        CHECKS.same("chief delivers", pair.delivers(0), 2);
        Pairs.lower(pair, 10);
        CHECKS.same("chief's lines up behind it", pair.about(0, 3), 0);
        CHECKS.same("chief's lines requested behind it", pair.about(0, 0), 0);
        CHECKS.same("chief delivers behind it", pair.delivers(0), LinePair.NONE);
    }

    private static void line2StaysUpWhileTheHelperDeliversAnotherLine() {
        CHECKS.sentence("it is up while the helper DELIVERS (whichever line)");
        LinePair pair = Pairs.ready();
        Pairs.raise(pair, 9);
        pair.write(Pairs.CHIEF, 0, Pairs.POLL);
        CHECKS.same("the chief alone takes line 2", pair.read(Pairs.CHIEF, 0), 130);
        Pairs.raise(pair, 12);
        Pairs.lower(pair, 9);
        CHECKS.same("helper delivers", pair.delivers(1), 4);
        CHECKS.same("line 2 is up", pair.about(0, 3), 4);
        CHECKS.same("line 2 did not come up anew", pair.about(0, 0), 0);
    }

    private static void noSuchLines() {
        CHECKS.sentence("NoSuchElementException: it is not 0 .. 15, or 2.");
        for (int k : new int[] {-1, 2, 16, Integer.MIN_VALUE, Integer.MAX_VALUE}) {
            CHECKS.noSuchElement("line(" + k + ", true)", Promise2LineTest::oneLineUpOfEach,
                    pair -> pair.line(k, true));
            CHECKS.noSuchElement("line(" + k + ", false)", Promise2LineTest::oneLineUpOfEach,
                    pair -> pair.line(k, false));
        }
    }

    private static LinePair oneLineUpOfEach() {
        LinePair pair = Pairs.ready();
        Pairs.raise(pair, 5, 11);
        return pair;
    }
}
