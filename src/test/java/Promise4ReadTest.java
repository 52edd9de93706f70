/** Promise 4: read, and the end of a poll. */
public final class Promise4ReadTest {
    private static final Checks CHECKS = new Checks();

    private Promise4ReadTest() {
    }

    public static void main(String[] args) {
        port1TellsMasks();
        port1TellsEveryMask();
        port1TellsMasksWhateverElseIs();
        port0TellsWhatReadSays();
        port0TellsEverySet();
        readingWithoutAPollChangesNothing();
        pollTakes();
        pollTakesEachLine();
        pollWithNothing();
        pollWithNothingToDeliver();
        pollEndsAtPort0Only();
        pollOfOneThatIsNotReady();
        pollOfTheChiefLeavesTheHelper();
        pollOfTheHelperLowersLine2();
        pollOfTheHelperThatDeliversOn();
        noSuchPlaces();
        CHECKS.end();
    }

    private static void port1TellsMasks() {
        CHECKS.sentence("Port 1: which lines are masked, as bits.");
        LinePair pair = Pairs.ready();
        pair.write(Pairs.CHIEF, 1, 0x5A);
        pair.write(Pairs.HELPER, 1, 0x81);
        CHECKS.same("chief", pair.read(Pairs.CHIEF, 1), 0x5A);
        CHECKS.same("helper", pair.read(Pairs.HELPER, 1), 0x81);
    }

    private static void port1TellsEveryMask() {
        CHECKS.sentence("Port 1: which lines are masked, as bits. (every set of lines)");
        for (int controller = 0; controller <= 1; controller++) {
            for (int mask = 0; mask <= 255; mask++) {
                LinePair pair = Pairs.ready();
                pair.write(controller, 1, mask);
                CHECKS.same("masked by " + mask, pair.read(controller, 1), mask);
                CHECKS.same("the other's masked by " + mask, pair.read(1 - controller, 1), 0);
            }
        }
    }

    private static void port1TellsMasksWhateverElseIs() {
        CHECKS.sentence("Port 1: which lines are masked (whether a poll waits, words are awaited or READ is 1)");
        for (int controller = 0; controller <= 1; controller++) {
            LinePair pair = new LinePair();
            pair.write(controller, 1, 0x2D);
            CHECKS.same("before it began", pair.read(controller, 1), 0x2D);
            pair.write(controller, 0, Pairs.EDGES);
            pair.write(controller, 1, 0xFF);
            CHECKS.same("when words are awaited", pair.read(controller, 1), 0);
            Pairs.begin(pair, controller, Pairs.EDGES, Pairs.PLAIN);
            pair.line(8 * controller + 4, true);
            pair.write(controller, 1, 0x2D);
            pair.write(controller, 0, Pairs.POLL | Pairs.READ_IN_SERVICE);
            CHECKS.same("when a poll waits and READ is 1", pair.read(controller, 1), 0x2D);
            CHECKS.same("lines taken by that", pair.count(0), 0);
        }
    }

    private static void port0TellsEverySet() {
        CHECKS.sentence("by READ: 0 which lines are requested, 1 which are in service (every set of lines)");
        for (int controller = 0; controller <= 1; controller++) {
            for (int set = 0; set <= 255; set++) {
                LinePair pair = Pairs.ready();
                for (int line = 7; line >= 0; line--) {
                    if ((set >> line & 1) != 0) {
                        Pairs.serve(pair, controller, line);
                    }
                }
                for (int line = 0; line <= 7; line++) {
                    Pairs.move(pair, controller, line, (set >> line & 1) == 0);
                }
                CHECKS.same("requested, all but " + set, pair.read(controller, 0), 255 - set);
                pair.write(controller, 0, Pairs.READ_IN_SERVICE);
                CHECKS.same("in service, " + set, pair.read(controller, 0), set);
                pair.write(controller, 1, 255);
                CHECKS.same("in service when masked, " + set, pair.read(controller, 0), set);
                pair.write(controller, 0, Pairs.READ_REQUESTED);
                CHECKS.same("requested when masked, all but " + set, pair.read(controller, 0), 255 - set);
            }
        }
    }

    private static void readingWithoutAPollChangesNothing() {
        CHECKS.sentence("if a poll waits [...] which it takes (else nothing is taken)");
        for (int controller = 0; controller <= 1; controller++) {
            LinePair pair = Pairs.ready();
            Pairs.raise(pair, 5, 13);
            pair.write(1 - controller, 0, Pairs.POLL);
            String before = Pairs.stateOf(pair);
            pair.read(controller, 0);
            pair.read(controller, 1);
            pair.read(1 - controller, 1);
            CHECKS.same("the state", Pairs.stateOf(pair), before);
        }
    }

    private static void port0TellsWhatReadSays() {
        CHECKS.sentence("else by READ: 0 which lines are requested, 1 which are in service");
        for (int controller = 0; controller <= 1; controller++) {
            LinePair pair = Pairs.ready();
            Pairs.raise(pair, 8 * controller + 1);
            pair.take();
            Pairs.raise(pair, 8 * controller + 6);
            CHECKS.same("at first, requested", pair.read(controller, 0), 0x40);
            pair.write(controller, 0, Pairs.READ_IN_SERVICE);
            CHECKS.same("in service", pair.read(controller, 0), 0x02);
            CHECKS.same("in service again", pair.read(controller, 0), 0x02);
            pair.write(controller, 0, Pairs.READ_REQUESTED);
            CHECKS.same("requested", pair.read(controller, 0), 0x40);
        }
        LinePair levels = Pairs.ready(Pairs.LEVELS, Pairs.PLAIN, Pairs.EDGES, Pairs.PLAIN);
        Pairs.raise(levels, 3);
        levels.take();
        CHECKS.same("requested by levels", levels.read(Pairs.CHIEF, 0), 8);
    }

    private static void pollTakes() {
        CHECKS.sentence("if a poll waits, 128 + the line that the controller delivers, which it takes");
        LinePair pair = Pairs.ready();
        Pairs.raise(pair, 0, 7);
        pair.write(Pairs.CHIEF, 0, Pairs.POLL | Pairs.READ_IN_SERVICE);
        CHECKS.same("poll", pair.read(Pairs.CHIEF, 0), 128);
        CHECKS.same("the poll has ended", pair.mode(0, 6), false);
        CHECKS.same("READ as told with the poll", pair.read(Pairs.CHIEF, 0), 1);
        CHECKS.same("requested", pair.about(0, 0), 0x80);
        CHECKS.same("taken", pair.count(0), 1);
        pair.write(Pairs.CHIEF, 0, Pairs.END_HIGHEST);
        pair.write(Pairs.CHIEF, 0, Pairs.POLL);
        CHECKS.same("poll of line 7", pair.read(Pairs.CHIEF, 0), 135);
    }

    private static void pollTakesEachLine() {
        CHECKS.sentence("128 + the line that the controller delivers, which it takes (each line)");
        for (int controller = 0; controller <= 1; controller++) {
            for (int line = 0; line <= 7; line++) {
                LinePair pair = Pairs.ready();
                pair.write(controller, 0, Pairs.TURN + 3);
                Pairs.move(pair, controller, line, true);
                CHECKS.same("poll of " + line, Pairs.poll(pair, controller), 128 + line);
                CHECKS.same("in service", pair.about(controller, 1), 1 << line);
                CHECKS.same("requested", pair.about(controller, 0), 0);
                CHECKS.same("in service at the other", pair.about(1 - controller, 1), 0);
                CHECKS.same("lines taken", pair.count(0), 1);
            }
        }
    }

    private static void pollWithNothingToDeliver() {
        CHECKS.sentence("or 0 if it delivers none (masked, blocked, or with words awaited)");
        for (int controller = 0; controller <= 1; controller++) {
            LinePair pair = Pairs.ready();
            pair.line(8 * controller + 4, true);
            pair.write(controller, 1, 0x10);
            CHECKS.same("masked", Pairs.poll(pair, controller), 0);
            pair.write(controller, 1, 0);
            CHECKS.same("not masked", Pairs.poll(pair, controller), 132);
            pair.line(8 * controller + 5, true);
            CHECKS.same("blocked", Pairs.poll(pair, controller), 0);
            pair.write(controller, 0, Pairs.END_HIGHEST);
            CHECKS.same("not blocked", Pairs.poll(pair, controller), 133);
            pair.write(controller, 0, 0x18);
            CHECKS.same("words awaited", Pairs.poll(pair, controller), 0);
            CHECKS.same("lines taken", pair.count(0), 2);
            CHECKS.same("answers of take() with nothing", pair.count(1), 0);
        }
    }

    private static void pollWithNothing() {
        CHECKS.sentence("or 0 if it delivers none");
        LinePair pair = Pairs.ready();
        pair.write(Pairs.CHIEF, 0, Pairs.POLL);
        CHECKS.same("poll", pair.read(Pairs.CHIEF, 0), 0);
        CHECKS.same("it has ended", pair.mode(0, 6), false);
        CHECKS.same("counts", pair.count(0) + pair.count(1), 0);
        Pairs.raise(pair, 4);
        CHECKS.same("a reading behind it takes nothing", pair.read(Pairs.CHIEF, 0), 16);
        CHECKS.same("nothing in service", pair.about(0, 1), 0);
    }

    private static void pollEndsAtPort0Only() {
        CHECKS.sentence("A poll that waits ends with the next reading of port 0.");
        LinePair pair = Pairs.ready();
        Pairs.raise(pair, 3);
        pair.write(Pairs.CHIEF, 0, Pairs.POLL);
        pair.read(Pairs.CHIEF, 1);
        pair.read(Pairs.HELPER, 0);
        pair.write(Pairs.CHIEF, 0, Pairs.READ_IN_SERVICE);
        pair.write(Pairs.CHIEF, 0, Pairs.NOTHING);
        pair.take();
        CHECKS.same("it waits", pair.mode(0, 6), true);
        Pairs.raise(pair, 1);
        CHECKS.same("poll", pair.read(Pairs.CHIEF, 0), 129);
        CHECKS.same("in service", pair.about(0, 1), 10);
    }

    private static void pollOfOneThatIsNotReady() {
        CHECKS.sentence("or 0 if it delivers none (not being ready)");
        LinePair pair = new LinePair();
        Pairs.raise(pair, 3);
        pair.write(Pairs.CHIEF, 0, Pairs.POLL);
        CHECKS.same("it waits", pair.mode(0, 6), true);
        CHECKS.same("poll", pair.read(Pairs.CHIEF, 0), 0);
        CHECKS.same("then requested", pair.read(Pairs.CHIEF, 0), 8);
    }

    private static void pollOfTheChiefLeavesTheHelper() {
        CHECKS.sentence("the line that the controller delivers, which it takes (it alone)");
        LinePair pair = Pairs.ready();
        Pairs.raise(pair, 13);
        pair.write(Pairs.CHIEF, 0, Pairs.POLL);
        CHECKS.same("poll", pair.read(Pairs.CHIEF, 0), 130);
        CHECKS.same("chief's in service", pair.about(0, 1), 4);
        CHECKS.same("helper's in service", pair.about(1, 1), 0);
        CHECKS.same("helper delivers", pair.delivers(1), 5);
        CHECKS.same("line 2 is up", pair.about(0, 3), 4);
        CHECKS.same("and not requested", pair.about(0, 0), 0);
        CHECKS.same("taken", pair.count(0), 1);
    }

    private static void pollOfTheHelperLowersLine2() {
        CHECKS.sentence("it is up while the helper DELIVERS (not behind its poll)");
        LinePair pair = Pairs.ready();
        Pairs.raise(pair, 13);
        pair.write(Pairs.HELPER, 0, Pairs.POLL);
        CHECKS.same("poll", pair.read(Pairs.HELPER, 0), 133);
        CHECKS.same("helper's in service", pair.about(1, 1), 32);
        CHECKS.same("chief's in service", pair.about(0, 1), 0);
        CHECKS.same("line 2 is down", pair.about(0, 3), 0);
        CHECKS.same("and not requested", pair.about(0, 0), 0);
    }

    /** Line 2 is up while the helper delivers: with another line to deliver it has no new edge. */
    private static void pollOfTheHelperThatDeliversOn() {
        CHECKS.sentence("it is up while the helper DELIVERS (behind its poll too)");
        LinePair pair = Pairs.ready(Pairs.EDGES, Pairs.PLAIN, Pairs.EDGES, Pairs.ENDS_AT_ONCE);
        Pairs.raise(pair, 9, 13);
        pair.write(Pairs.CHIEF, 0, Pairs.POLL);
        pair.read(Pairs.CHIEF, 0);
        pair.write(Pairs.HELPER, 0, Pairs.POLL);
        CHECKS.same("poll", pair.read(Pairs.HELPER, 0), 129);
        CHECKS.same("helper delivers on", pair.delivers(1), 5);
        CHECKS.same("line 2 is up", pair.about(0, 3), 4);
        CHECKS.same("and did not come up anew", pair.about(0, 0), 0);
    }

    private static void noSuchPlaces() {
        CHECKS.sentence("NoSuchElementException.");
        for (int wrong : new int[] {-1, 2, Integer.MIN_VALUE, Integer.MAX_VALUE}) {
            CHECKS.noSuchElement("read(" + wrong + ", 0)", Promise4ReadTest::waiting, pair -> pair.read(wrong, 0));
            CHECKS.noSuchElement("read(0, " + wrong + ")", Promise4ReadTest::waiting, pair -> pair.read(0, wrong));
        }
    }

    private static LinePair waiting() {
        LinePair pair = Pairs.ready();
        Pairs.raise(pair, 3);
        pair.write(Pairs.CHIEF, 0, Pairs.POLL);
        return pair;
    }
}
