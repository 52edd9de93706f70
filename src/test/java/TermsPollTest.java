/** Terms: how long a poll waits. */
public final class TermsPollTest {
    private static final Checks CHECKS = new Checks();

    private TermsPollTest() {
    }

    public static void main(String[] args) {
        endsWithTheNextReading();
        endsWhenNothingIsDelivered();
        twoWordsAreOnePoll();
        otherReadingsDoNotEndIt();
        otherCallsDoNotEndIt();
        refusedReadingsDoNotEndIt();
        eachPollWaitsForItself();
        aBeginningEndsIt();
        CHECKS.end();
    }

    private static void endsWithTheNextReading() {
        CHECKS.sentence("A poll that waits ends with the next reading of port 0.");
        for (int controller = 0; controller <= 1; controller++) {
            for (int line = 0; line <= 7; line++) {
                LinePair pair = Pairs.byLevels();
                Pairs.move(pair, controller, line, true);
                pair.write(controller, 0, Pairs.POLL);
                CHECKS.same("it waits", pair.mode(controller, 6), true);
                CHECKS.same("the reading", pair.read(controller, 0), 128 + line);
                CHECKS.same("it waits behind that", pair.mode(controller, 6), false);
                CHECKS.same("the next reading", pair.read(controller, 0), 1 << line);
                CHECKS.same("lines taken", pair.count(0), 1);
            }
        }
    }

    private static void endsWhenNothingIsDelivered() {
        CHECKS.sentence("A poll that waits ends with the next reading of port 0. (with nothing delivered too)");
        for (int controller = 0; controller <= 1; controller++) {
            LinePair pair = Pairs.ready();
            CHECKS.same("the reading", Pairs.poll(pair, controller), 0);
            CHECKS.same("it waits behind that", pair.mode(controller, 6), false);
            Pairs.move(pair, controller, 7, true);
            CHECKS.same("the next reading", pair.read(controller, 0), 128);
            CHECKS.same("lines requested", pair.about(controller, 0), 128);
            CHECKS.same("lines taken", pair.count(0), 0);
        }
    }

    private static void twoWordsAreOnePoll() {
        CHECKS.sentence("A poll that waits ends with the next reading (it is one poll, however often asked for)");
        for (int controller = 0; controller <= 1; controller++) {
            LinePair pair = Pairs.byLevels();
            Pairs.move(pair, controller, 6, true);
            pair.write(controller, 0, Pairs.POLL);
            pair.write(controller, 0, Pairs.POLL);
            CHECKS.same("the reading", pair.read(controller, 0), 134);
            CHECKS.same("the next reading", pair.read(controller, 0), 64);
        }
    }

    private static void otherReadingsDoNotEndIt() {
        CHECKS.sentence("the next reading of port 0 (not of port 1, nor of the other controller)");
        for (int controller = 0; controller <= 1; controller++) {
            LinePair pair = Pairs.ready();
            Pairs.move(pair, controller, 6, true);
            pair.write(controller, 0, Pairs.POLL);
            pair.read(controller, 1);
            pair.read(1 - controller, 0);
            pair.read(1 - controller, 1);
            CHECKS.same("it waits", pair.mode(controller, 6), true);
            CHECKS.same("lines taken", pair.count(0), 0);
            CHECKS.same("the reading", pair.read(controller, 0), 134);
        }
    }

    private static void otherCallsDoNotEndIt() {
        CHECKS.sentence("ends with the next reading of port 0 (and with no other call)");
        for (int controller = 0; controller <= 1; controller++) {
            LinePair pair = Pairs.ready();
            pair.write(controller, 0, Pairs.POLL);
            for (int word = 0; word <= 255; word++) {
                if ((word & 16) == 0) {
                    pair.write(controller, 0, word);
                    pair.write(controller, 1, word);
                    CHECKS.same("it waits behind " + word, pair.mode(controller, 6), true);
                }
            }
            pair.write(1 - controller, 0, Pairs.EDGES);
            pair.take();
            Pairs.move(pair, controller, 6, true);
            pair.take();
            pair.delivers(controller);
            CHECKS.same("it waits behind take", pair.mode(controller, 6), true);
        }
    }

    private static void refusedReadingsDoNotEndIt() {
        CHECKS.sentence("ends with the next reading of port 0 (not with a refused one)");
        for (int controller = 0; controller <= 1; controller++) {
            int polled = controller;
            for (int port : new int[] {-1, 2}) {
                CHECKS.noSuchElement("read(" + controller + ", " + port + ")", () -> waiting(polled),
                        pair -> pair.read(polled, port));
                CHECKS.noSuchElement("read(" + port + ", 0)", () -> waiting(polled), pair -> pair.read(port, 0));
            }
        }
    }

    private static LinePair waiting(int controller) {
        LinePair pair = Pairs.ready();
        Pairs.move(pair, controller, 6, true);
        pair.write(controller, 0, Pairs.POLL);
        return pair;
    }

    private static void eachPollWaitsForItself() {
        CHECKS.sentence("A poll that waits (at each controller for itself)");
        LinePair pair = Pairs.byLevels();
        Pairs.raise(pair, 1, 12);
        pair.write(Pairs.CHIEF, 0, Pairs.POLL);
        CHECKS.same("the helper's waits", pair.mode(1, 6), false);
        pair.write(Pairs.HELPER, 0, Pairs.POLL);
        CHECKS.same("the helper's reading", pair.read(Pairs.HELPER, 0), 132);
        CHECKS.same("the chief's waits", pair.mode(0, 6), true);
        CHECKS.same("the chief's reading", pair.read(Pairs.CHIEF, 0), 129);
    }

    private static void aBeginningEndsIt() {
        CHECKS.sentence("it BEGINS: [...] no poll waits");
        for (int controller = 0; controller <= 1; controller++) {
            for (int first : new int[] {0x10, 0x11, 0x18, 0x19, 0xFF}) {
                LinePair pair = waiting(controller);
                pair.write(controller, 0, first);
                CHECKS.same("it waits behind " + first, pair.mode(controller, 6), false);
            }
        }
    }
}
