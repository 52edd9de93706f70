/** Promise 9: count. */
public final class Promise9CountTest {
    private static final Checks CHECKS = new Checks();

    private Promise9CountTest() {
    }

    public static void main(String[] args) {
        atFirst();
        linesTaken();
        linesTakenOfEachController();
        linesTakenThatEndAtOnce();
        whereNoLineIsTaken();
        answersWithNothing();
        whereNoAnswerIsWithNothing();
        linesEnded();
        linesEndedByEachOrder();
        whereNoLineIsEnded();
        askingCountsNothing();
        aBeginningKeepsTheCounts();
        noneOfThese();
        CHECKS.end();
    }

    private static void countsAre(String when, LinePair pair, int taken, int empty, int ended) {
        CHECKS.same("taken " + when, pair.count(0), taken);
        CHECKS.same("answers with nothing " + when, pair.count(1), empty);
        CHECKS.same("ended " + when, pair.count(2), ended);
    }

    private static void atFirst() {
        CHECKS.sentence("0 lines taken, [...] 1 answers [...], 2 lines ended (none at first)");
        countsAre("of a new object", new LinePair(), 0, 0, 0);
        countsAre("when both began", Pairs.ready(), 0, 0, 0);
    }

    private static void linesTakenOfEachController() {
        CHECKS.sentence("lines taken, by take() and polls of either controller (each line)");
        for (int controller = 0; controller <= 1; controller++) {
            for (int line = 0; line <= 7; line++) {
                LinePair polled = Pairs.ready();
                Pairs.move(polled, controller, line, true);
                Pairs.poll(polled, controller);
                countsAre("by a poll of " + line, polled, 1, 0, 0);
                LinePair taken = Pairs.ready();
                Pairs.move(taken, controller, line, true);
                taken.take();
                boolean two = controller == Pairs.HELPER || line == 2;
                countsAre("by take() of " + line, taken, two ? 2 : 1, 0, 0);
            }
        }
    }

    private static void whereNoLineIsTaken() {
        CHECKS.sentence("0 lines taken (and not: lines requested, delivered, read, or polled for in vain)");
        LinePair pair = Pairs.ready();
        Pairs.poll(pair, Pairs.CHIEF);
        Pairs.poll(pair, Pairs.HELPER);
        Pairs.raise(pair, 0, 8);
        pair.write(Pairs.CHIEF, 1, 0);
        pair.write(Pairs.CHIEF, 0, Pairs.TURN + 3);
        pair.delivers(0);
        pair.delivers(1);
        pair.read(Pairs.CHIEF, 0);
        pair.read(Pairs.HELPER, 0);
        pair.read(Pairs.CHIEF, 1);
        Pairs.lower(pair, 0, 8);
        countsAre("so far", pair, 0, 0, 0);
        pair.take();
        countsAre("behind take() with nothing", pair, 0, 1, 0);
    }

    private static void whereNoAnswerIsWithNothing() {
        CHECKS.sentence("1 answers of take() with nothing delivered (and not: of a poll, nor of take() with a line)");
        LinePair pair = Pairs.ready();
        Pairs.poll(pair, Pairs.CHIEF);
        Pairs.poll(pair, Pairs.HELPER);
        pair.delivers(0);
        Pairs.raise(pair, 15);
        CHECKS.same("the helper's line 7", pair.take(), Pairs.HELPER_BASE + 7);
        pair.write(Pairs.CHIEF, 0, Pairs.END_HIGHEST);
        Pairs.raise(pair, 7);
        CHECKS.same("the chief's line 7", pair.take(), Pairs.CHIEF_BASE + 7);
        countsAre("behind lines 7", pair, 3, 0, 1);
        CHECKS.same("nothing", pair.take(), Pairs.CHIEF_BASE + 7);
        countsAre("behind nothing", pair, 3, 1, 1);
        pair.write(Pairs.CHIEF, 0, 0x10);
        pair.take();
        countsAre("behind nothing when words are awaited", pair, 3, 2, 1);
    }

    private static void linesEndedByEachOrder() {
        CHECKS.sentence("2 lines ended by words (each order, with a line in service and without)");
        for (int controller = 0; controller <= 1; controller++) {
            for (int order = 0; order <= 7; order++) {
                for (int line = 0; line <= 7; line++) {
                    LinePair pair = Pairs.ready();
                    Pairs.serve(pair, controller, line);
                    pair.write(controller, 0, order << 5 | (line + 1) % 8);
                    boolean highest = order == 1 || order == 5;
                    countsAre("by " + order + " of another line", pair, 1, 0, highest ? 1 : 0);
                    pair.write(controller, 0, order << 5 | line);
                    countsAre("by " + order, pair, 1, 0, order % 2);
                    pair.write(controller, 0, order << 5 | line);
                    countsAre("by " + order + " again", pair, 1, 0, order % 2);
                }
            }
        }
    }

    private static void whereNoLineIsEnded() {
        CHECKS.sentence("2 lines ended by words (and not: at once, by a beginning, or kept by special mask)");
        for (int controller = 0; controller <= 1; controller++) {
            LinePair atOnce = Pairs.ready(Pairs.EDGES, Pairs.ENDS_AT_ONCE, Pairs.EDGES, Pairs.ENDS_AT_ONCE);
            atOnce.write(controller, 0, Pairs.TURNS_AT_ONCE_ON);
            Pairs.serve(atOnce, controller, 3);
            countsAre("at once", atOnce, 1, 0, 0);
            LinePair begun = Pairs.ready();
            Pairs.serve(begun, controller, 3);
            begun.write(controller, 0, Pairs.EDGES);
            begun.write(controller, 0, Pairs.END_HIGHEST);
            countsAre("by a beginning", begun, 1, 0, 0);
            LinePair kept = Pairs.ready();
            Pairs.serve(kept, controller, 3);
            kept.write(controller, 1, 8);
            kept.write(controller, 0, Pairs.SPECIAL_MASK_ON);
            kept.write(controller, 0, Pairs.END_HIGHEST);
            kept.write(controller, 0, Pairs.END_HIGHEST_AND_TURN);
            countsAre("kept by special mask", kept, 1, 0, 0);
            kept.write(1 - controller, 0, Pairs.END_LINE + 3);
            countsAre("at the other controller", kept, 1, 0, 0);
        }
    }

    private static void askingCountsNothing() {
        CHECKS.sentence("lines taken, [...] answers [...], lines ended (asking counts nothing)");
        LinePair pair = Pairs.ready();
        Pairs.raise(pair, 5, 13);
        pair.take();
        for (int times = 0; times < 3; times++) {
            Pairs.stateOf(pair);
        }
        countsAre("behind asking", pair, 2, 0, 0);
    }

    private static void linesTaken() {
        CHECKS.sentence("0 lines taken, by take() and polls of either controller");
        LinePair pair = Pairs.ready();
        Pairs.raise(pair, 3);
        pair.take();
        countsAre("behind a line of the chief", pair, 1, 0, 0);
        Pairs.raise(pair, 12);
        pair.take();
        countsAre("behind line 2 and a line of the helper", pair, 3, 0, 0);
        Pairs.raise(pair, 0);
        pair.write(Pairs.CHIEF, 0, Pairs.POLL);
        pair.read(Pairs.CHIEF, 0);
        countsAre("behind a poll of the chief", pair, 4, 0, 0);
        Pairs.raise(pair, 8);
        pair.write(Pairs.HELPER, 0, Pairs.POLL);
        pair.read(Pairs.HELPER, 0);
        countsAre("behind a poll of the helper", pair, 5, 0, 0);
        pair.write(Pairs.CHIEF, 0, Pairs.POLL);
        pair.read(Pairs.CHIEF, 0);
        countsAre("behind a poll with nothing", pair, 5, 0, 0);
    }

    private static void linesTakenThatEndAtOnce() {
        CHECKS.sentence("0 lines taken (with ENDS AT ONCE too)");
        LinePair pair = Pairs.ready(Pairs.LEVELS, Pairs.ENDS_AT_ONCE, Pairs.EDGES, Pairs.PLAIN);
        Pairs.raise(pair, 3);
        pair.take();
        pair.take();
        countsAre("when they end at once", pair, 2, 0, 0);
    }

    private static void answersWithNothing() {
        CHECKS.sentence("1 answers of take() with nothing delivered");
        LinePair pair = new LinePair();
        pair.take();
        pair.take();
        countsAre("before a beginning", pair, 0, 2, 0);
        Pairs.begin(pair, Pairs.CHIEF, Pairs.EDGES, Pairs.PLAIN);
        pair.take();
        countsAre("with nothing requested", pair, 0, 3, 0);
        Pairs.raise(pair, 7);
        CHECKS.same("line 7 answers as nothing does", pair.take(), Pairs.CHIEF_BASE + 7);
        countsAre("behind line 7", pair, 1, 3, 0);
    }

    private static void linesEnded() {
        CHECKS.sentence("2 lines ended by words");
        LinePair pair = Pairs.ready();
        Pairs.raise(pair, 6);
        pair.take();
        Pairs.raise(pair, 4);
        pair.take();
        Pairs.raise(pair, 12);
        pair.take();
        Pairs.raise(pair, 0);
        pair.take();
        pair.write(Pairs.CHIEF, 0, Pairs.END_HIGHEST);
        countsAre("by 1", pair, 5, 0, 1);
        pair.write(Pairs.CHIEF, 0, Pairs.END_LINE + 4);
        countsAre("by 3", pair, 5, 0, 2);
        pair.write(Pairs.CHIEF, 0, Pairs.END_LINE_AND_TURN + 6);
        countsAre("by 7", pair, 5, 0, 3);
        pair.write(Pairs.CHIEF, 0, Pairs.END_HIGHEST_AND_TURN);
        countsAre("by 5", pair, 5, 0, 4);
        pair.write(Pairs.HELPER, 0, Pairs.END_HIGHEST);
        countsAre("of the helper", pair, 5, 0, 5);
        for (int order = 0; order <= 7; order++) {
            pair.write(Pairs.CHIEF, 0, order << 5 | 3);
        }
        countsAre("with none in service", pair, 5, 0, 5);
    }

    private static void aBeginningKeepsTheCounts() {
        CHECKS.sentence("it BEGINS (the counts stay)");
        LinePair pair = Pairs.ready();
        pair.take();
        Pairs.raise(pair, 3);
        pair.take();
        pair.write(Pairs.CHIEF, 0, Pairs.END_HIGHEST);
        Pairs.raise(pair, 12);
        pair.take();
        pair.write(Pairs.CHIEF, 0, Pairs.EDGES);
        pair.write(Pairs.HELPER, 0, Pairs.EDGES);
        countsAre("behind beginnings", pair, 3, 1, 1);
    }

    private static void noneOfThese() {
        CHECKS.sentence("IllegalArgumentException: none of these.");
        for (int wrong : new int[] {-1, 3, Integer.MIN_VALUE, Integer.MAX_VALUE}) {
            CHECKS.illegalArgument("count(" + wrong + ")", Pairs::ready, pair -> pair.count(wrong));
        }
    }
}
