/** Promise 9: count. */
public final class Promise9CountTest {
    private static final Checks CHECKS = new Checks();

    private Promise9CountTest() {
    }

    public static void main(String[] args) {
        linesTaken();
        linesTakenThatEndAtOnce();
        answersWithNothing();
        linesEnded();
        aBeginningKeepsTheCounts();
        noneOfThese();
        CHECKS.end();
    }

    private static void countsAre(String when, LinePair pair, int taken, int empty, int ended) {
        CHECKS.same("taken " + when, pair.count(0), taken);
        CHECKS.same("answers with nothing " + when, pair.count(1), empty);
        CHECKS.same("ended " + when, pair.count(2), ended);
    }

    private static void linesTaken() {
        LinePair pair = Pairs.ready();
        Pairs.raise(pair, 3);
        pair.take();
        countsAre("behind a line of the chief", pair, 1, 0, 0);
        Pairs.raise(pair, 12);
        pair.take();
        countsAre("behind line 2 and a line of the helper", pair, 3, 0, 0);
        Pairs.raise(pair, 0);
        pair.write(Pairs.CHIEF, 0, Pairs.POLL);
        pair.read(Pairs.CHIEF, 0);
        countsAre("behind a poll of the chief", pair, 4, 0, 0);
        Pairs.raise(pair, 8);
        pair.write(Pairs.HELPER, 0, Pairs.POLL);
        pair.read(Pairs.HELPER, 0);
        countsAre("behind a poll of the helper", pair, 5, 0, 0);
        pair.write(Pairs.CHIEF, 0, Pairs.POLL);
        pair.read(Pairs.CHIEF, 0);
        countsAre("behind a poll with nothing", pair, 5, 0, 0);
    }

    private static void linesTakenThatEndAtOnce() {
        LinePair pair = Pairs.ready(Pairs.LEVELS, Pairs.ENDS_AT_ONCE, Pairs.EDGES, Pairs.PLAIN);
        Pairs.raise(pair, 3);
        pair.take();
        pair.take();
        countsAre("when they end at once", pair, 2, 0, 0);
    }

    private static void answersWithNothing() {
        LinePair pair = new LinePair();
        pair.take();
        pair.take();
        countsAre("before a beginning", pair, 0, 2, 0);
        Pairs.begin(pair, Pairs.CHIEF, Pairs.EDGES, Pairs.PLAIN);
        pair.take();
        countsAre("with nothing requested", pair, 0, 3, 0);
        Pairs.raise(pair, 7);
        CHECKS.same("line 7 answers as nothing does", pair.take(), Pairs.CHIEF_BASE + 7);
        countsAre("behind line 7", pair, 1, 3, 0);
    }

    private static void linesEnded() {
        LinePair pair = Pairs.ready();
        Pairs.raise(pair, 6);
        pair.take();
        Pairs.raise(pair, 4);
        pair.take();
        Pairs.raise(pair, 12);
        pair.take();
        Pairs.raise(pair, 0);
        pair.take();
        pair.write(Pairs.CHIEF, 0, Pairs.END_HIGHEST);
        countsAre("by 1", pair, 5, 0, 1);
        pair.write(Pairs.CHIEF, 0, Pairs.END_LINE + 4);
        countsAre("by 3", pair, 5, 0, 2);
        pair.write(Pairs.CHIEF, 0, Pairs.END_LINE_AND_TURN + 6);
        countsAre("by 7", pair, 5, 0, 3);
        pair.write(Pairs.CHIEF, 0, Pairs.END_HIGHEST_AND_TURN);
        countsAre("by 5", pair, 5, 0, 4);
        pair.write(Pairs.HELPER, 0, Pairs.END_HIGHEST);
        countsAre("of the helper", pair, 5, 0, 5);
        for (int order = 0; order <= 7; order++) {
            pair.write(Pairs.CHIEF, 0, order << 5 | 3);
        }
        countsAre("with none in service", pair, 5, 0, 5);
    }

    private static void aBeginningKeepsTheCounts() {
        LinePair pair = Pairs.ready();
        pair.take();
        Pairs.raise(pair, 3);
        pair.take();
        pair.write(Pairs.CHIEF, 0, Pairs.END_HIGHEST);
        Pairs.raise(pair, 12);
        pair.take();
        pair.write(Pairs.CHIEF, 0, Pairs.EDGES);
        pair.write(Pairs.HELPER, 0, Pairs.EDGES);
        countsAre("behind beginnings", pair, 3, 1, 1);
    }

    private static void noneOfThese() {
        LinePair pair = Pairs.ready();
        pair.take();
        for (int wrong : new int[] {-1, 3, Integer.MIN_VALUE, Integer.MAX_VALUE}) {
            CHECKS.illegalArgument(pair, "count(" + wrong + ")", () -> pair.count(wrong));
        }
    }
}
