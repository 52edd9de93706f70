/** Promise 4: read, and the end of a poll. */
public final class Promise4ReadTest {
    private static final Checks CHECKS = new Checks();

    private Promise4ReadTest() {
    }

    public static void main(String[] args) {
        port1TellsMasks();
        port0TellsWhatReadSays();
        pollTakes();
        pollWithNothing();
        pollEndsAtPort0Only();
        pollOfOneThatIsNotReady();
        pollOfTheChiefLeavesTheHelper();
        pollOfTheHelperLowersLine2();
        pollOfTheHelperThatDeliversOn();
        noSuchPlaces();
        CHECKS.end();
    }

    private static void port1TellsMasks() {
        LinePair pair = Pairs.ready();
        pair.write(Pairs.CHIEF, 1, 0x5A);
        pair.write(Pairs.HELPER, 1, 0x81);
        CHECKS.same("chief", pair.read(Pairs.CHIEF, 1), 0x5A);
        CHECKS.same("helper", pair.read(Pairs.HELPER, 1), 0x81);
    }

    private static void port0TellsWhatReadSays() {
        for (int controller = 0; controller <= 1; controller++) {
            LinePair pair = Pairs.ready();
            Pairs.raise(pair, 8 * controller + 1);
            pair.take();
            Pairs.raise(pair, 8 * controller + 6);
            CHECKS.same("at first, requested", pair.read(controller, 0), 0x40);
            pair.write(controller, 0, Pairs.READ_IN_SERVICE);
            CHECKS.same("in service", pair.read(controller, 0), 0x02);
            CHECKS.same("in service again", pair.read(controller, 0), 0x02);
            pair.write(controller, 0, Pairs.READ_REQUESTED);
            CHECKS.same("requested", pair.read(controller, 0), 0x40);
        }
        LinePair levels = Pairs.ready(Pairs.LEVELS, Pairs.PLAIN, Pairs.EDGES, Pairs.PLAIN);
        Pairs.raise(levels, 3);
        levels.take();
        CHECKS.same("requested by levels", levels.read(Pairs.CHIEF, 0), 8);
    }

    private static void pollTakes() {
        LinePair pair = Pairs.ready();
        Pairs.raise(pair, 0, 7);
        pair.write(Pairs.CHIEF, 0, Pairs.POLL | Pairs.READ_IN_SERVICE);
        CHECKS.same("poll", pair.read(Pairs.CHIEF, 0), 128);
        CHECKS.same("the poll has ended", pair.mode(0, 6), false);
        CHECKS.same("READ as told with the poll", pair.read(Pairs.CHIEF, 0), 1);
        CHECKS.same("requested", pair.about(0, 0), 0x80);
        CHECKS.same("taken", pair.count(0), 1);
        pair.write(Pairs.CHIEF, 0, Pairs.END_HIGHEST);
        pair.write(Pairs.CHIEF, 0, Pairs.POLL);
        CHECKS.same("poll of line 7", pair.read(Pairs.CHIEF, 0), 135);
    }

    private static void pollWithNothing() {
        LinePair pair = Pairs.ready();
        pair.write(Pairs.CHIEF, 0, Pairs.POLL);
        CHECKS.same("poll", pair.read(Pairs.CHIEF, 0), 0);
        CHECKS.same("it has ended", pair.mode(0, 6), false);
        CHECKS.same("counts", pair.count(0) + pair.count(1), 0);
        Pairs.raise(pair, 4);
        CHECKS.same("a reading behind it takes nothing", pair.read(Pairs.CHIEF, 0), 16);
        CHECKS.same("nothing in service", pair.about(0, 1), 0);
    }

    private static void pollEndsAtPort0Only() {
        LinePair pair = Pairs.ready();
        Pairs.raise(pair, 3);
        pair.write(Pairs.CHIEF, 0, Pairs.POLL);
        pair.read(Pairs.CHIEF, 1);
        pair.read(Pairs.HELPER, 0);
        pair.write(Pairs.CHIEF, 0, Pairs.READ_IN_SERVICE);
        pair.write(Pairs.CHIEF, 0, Pairs.NOTHING);
        pair.take();
        CHECKS.same("it waits", pair.mode(0, 6), true);
        Pairs.raise(pair, 1);
        CHECKS.same("poll", pair.read(Pairs.CHIEF, 0), 129);
        CHECKS.same("in service", pair.about(0, 1), 10);
    }

    private static void pollOfOneThatIsNotReady() {
        LinePair pair = new LinePair();
        Pairs.raise(pair, 3);
        pair.write(Pairs.CHIEF, 0, Pairs.POLL);
        CHECKS.same("it waits", pair.mode(0, 6), true);
        CHECKS.same("poll", pair.read(Pairs.CHIEF, 0), 0);
        CHECKS.same("then requested", pair.read(Pairs.CHIEF, 0), 8);
    }

    private static void pollOfTheChiefLeavesTheHelper() {
        LinePair pair = Pairs.ready();
        Pairs.raise(pair, 13);
        pair.write(Pairs.CHIEF, 0, Pairs.POLL);
        CHECKS.same("poll", pair.read(Pairs.CHIEF, 0), 130);
        CHECKS.same("chief's in service", pair.about(0, 1), 4);
        CHECKS.same("helper's in service", pair.about(1, 1), 0);
        CHECKS.same("helper delivers", pair.delivers(1), 5);
        CHECKS.same("line 2 is up", pair.about(0, 3), 4);
        CHECKS.same("and not requested", pair.about(0, 0), 0);
        CHECKS.same("taken", pair.count(0), 1);
    }

    private static void pollOfTheHelperLowersLine2() {
        LinePair pair = Pairs.ready();
        Pairs.raise(pair, 13);
        pair.write(Pairs.HELPER, 0, Pairs.POLL);
        CHECKS.same("poll", pair.read(Pairs.HELPER, 0), 133);
        CHECKS.same("helper's in service", pair.about(1, 1), 32);
        CHECKS.same("chief's in service", pair.about(0, 1), 0);
        CHECKS.same("line 2 is down", pair.about(0, 3), 0);
        CHECKS.same("and not requested", pair.about(0, 0), 0);
    }

    /** Line 2 is up while the helper delivers: with another line to deliver it has no new edge. */
    private static void pollOfTheHelperThatDeliversOn() {
        LinePair pair = Pairs.ready(Pairs.EDGES, Pairs.PLAIN, Pairs.EDGES, Pairs.ENDS_AT_ONCE);
        Pairs.raise(pair, 9, 13);
        pair.write(Pairs.CHIEF, 0, Pairs.POLL);
        pair.read(Pairs.CHIEF, 0);
        pair.write(Pairs.HELPER, 0, Pairs.POLL);
        CHECKS.same("poll", pair.read(Pairs.HELPER, 0), 129);
        CHECKS.same("helper delivers on", pair.delivers(1), 5);
        CHECKS.same("line 2 is up", pair.about(0, 3), 4);
        CHECKS.same("and did not come up anew", pair.about(0, 0), 0);
    }

    private static void noSuchPlaces() {
        LinePair pair = Pairs.ready();
        Pairs.raise(pair, 3);
        pair.write(Pairs.CHIEF, 0, Pairs.POLL);
        for (int wrong : new int[] {-1, 2, Integer.MIN_VALUE, Integer.MAX_VALUE}) {
            CHECKS.noSuchElement(pair, "read(" + wrong + ", 0)", () -> pair.read(wrong, 0));
            CHECKS.noSuchElement(pair, "read(0, " + wrong + ")", () -> pair.read(0, wrong));
        }
    }
}
