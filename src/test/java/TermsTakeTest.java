/** Terms: TO TAKE, for each line, by edges and by levels, with and without the two modes at once. */
public final class TermsTakeTest {
    private static final Checks CHECKS = new Checks();

    private TermsTakeTest() {
    }

    /** Looks at one line that has just been taken by a poll. */
    private interface Look {
        void at(LinePair pair, int controller, int line, boolean levels, boolean ends, boolean turns);
    }

    public static void main(String[] args) {
        CHECKS.sentence("TO TAKE the line that it delivers");
        eachWay((pair, controller, line, levels, ends, turns) ->
                CHECKS.same("lines taken with " + line, pair.count(0), 1));
        CHECKS.sentence("it is requested no more (by edges)");
        eachWay(TermsTakeTest::requestedNoMore);
        CHECKS.sentence("it comes to be in service; but with ENDS AT ONCE it does not");
        eachWay((pair, controller, line, levels, ends, turns) ->
                CHECKS.same("in service with " + line + (ends ? " that ends at once" : ""),
                        pair.about(controller, 1), ends ? 0 : 1 << line));
        CHECKS.sentence("and then, with TURNS AT ONCE, it becomes the lowest");
        eachWay((pair, controller, line, levels, ends, turns) ->
                CHECKS.same("lowest with " + line + (ends ? ", ends at once" : "") + (turns ? ", turns at once" : ""),
                        pair.about(controller, 4), ends && turns ? line : 7));
        takenAmongOthers();
        takenAmongOthersInService();
        takenByTake();
        CHECKS.end();
    }

    private static void eachWay(Look look) {
        for (int controller = 0; controller <= 1; controller++) {
            for (int line = 0; line <= 7; line++) {
                for (int ways = 0; ways <= 7; ways++) {
                    boolean levels = (ways & 1) != 0;
                    boolean ends = (ways & 2) != 0;
                    boolean turns = (ways & 4) != 0;
                    LinePair pair = inModes(controller, levels, ends, turns);
                    Pairs.move(pair, controller, line, true);
                    Pairs.poll(pair, controller);
                    look.at(pair, controller, line, levels, ends, turns);
                }
            }
        }
    }

    private static LinePair inModes(int controller, boolean levels, boolean ends, boolean turns) {
        LinePair pair = Pairs.ready();
        Pairs.begin(pair, controller, levels ? Pairs.LEVELS : Pairs.EDGES, ends ? Pairs.ENDS_AT_ONCE : Pairs.PLAIN);
        pair.write(controller, 0, turns ? Pairs.TURNS_AT_ONCE_ON : Pairs.TURNS_AT_ONCE_OFF);
        return pair;
    }

    private static void requestedNoMore(LinePair pair, int controller, int line, boolean levels, boolean ends,
            boolean turns) {
        CHECKS.same("requested with " + line + (levels ? " by levels" : " by edges"),
                pair.about(controller, 0), levels ? 1 << line : 0);
        CHECKS.same("up with " + line, pair.about(controller, 3), 1 << line);
    }

    private static void takenAmongOthers() {
        CHECKS.sentence("TO TAKE the line that it delivers: it is requested no more (and no other line is touched)");
        for (int controller = 0; controller <= 1; controller++) {
            LinePair pair = Pairs.ready();
            for (int line = 0; line <= 7; line++) {
                Pairs.move(pair, controller, line, true);
            }
            pair.write(controller, 1, 0x09);
            CHECKS.same("poll", Pairs.poll(pair, controller), 129);
            CHECKS.same("requested", pair.about(controller, 0), 0xFD);
            CHECKS.same("in service", pair.about(controller, 1), 0x02);
            CHECKS.same("masked", pair.about(controller, 2), 0x09);
        }
    }

    private static void takenAmongOthersInService() {
        CHECKS.sentence("it comes to be in service (beside those that are)");
        for (int controller = 0; controller <= 1; controller++) {
            LinePair pair = Pairs.ready();
            int inService = 0;
            for (int line = 7; line >= 0; line--) {
                Pairs.serve(pair, controller, line);
                inService |= 1 << line;
                CHECKS.same("in service from " + line, pair.about(controller, 1), inService);
            }
        }
    }

    private static void takenByTake() {
        CHECKS.sentence("with ENDS AT ONCE it does not, and then, with TURNS AT ONCE, it becomes the lowest "
                + "(each of the two by its own modes)");
        for (int ways = 0; ways <= 15; ways++) {
            boolean chiefEnds = (ways & 1) != 0;
            boolean chiefTurns = (ways & 2) != 0;
            boolean helperEnds = (ways & 4) != 0;
            boolean helperTurns = (ways & 8) != 0;
            LinePair pair = Pairs.ready(Pairs.EDGES, chiefEnds ? Pairs.ENDS_AT_ONCE : Pairs.PLAIN,
                    Pairs.EDGES, helperEnds ? Pairs.ENDS_AT_ONCE : Pairs.PLAIN);
            pair.write(Pairs.CHIEF, 0, chiefTurns ? Pairs.TURNS_AT_ONCE_ON : Pairs.TURNS_AT_ONCE_OFF);
            pair.write(Pairs.HELPER, 0, helperTurns ? Pairs.TURNS_AT_ONCE_ON : Pairs.TURNS_AT_ONCE_OFF);
            Pairs.raise(pair, 13);
            CHECKS.same("take", pair.take(), Pairs.HELPER_BASE + 5);
            CHECKS.same("the chief's in service in way " + ways, pair.about(0, 1), chiefEnds ? 0 : 4);
            CHECKS.same("the helper's in service in way " + ways, pair.about(1, 1), helperEnds ? 0 : 32);
            CHECKS.same("the chief's lowest in way " + ways, pair.about(0, 4), chiefEnds && chiefTurns ? 2 : 7);
            CHECKS.same("the helper's lowest in way " + ways, pair.about(1, 4), helperEnds && helperTurns ? 5 : 7);
            CHECKS.same("requested in way " + ways, pair.about(0, 0) + pair.about(1, 0), 0);
        }
    }
}
