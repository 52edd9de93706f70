/** Terms: the priorities, from the line behind the lowest round to the lowest. */
public final class TermsPrioritiesTest {
    private static final Checks CHECKS = new Checks();

    private TermsPrioritiesTest() {
    }

    public static void main(String[] args) {
        lowestAtFirst();
        behind7Is0();
        theLineBehindTheLowestIsTheHighest();
        theLowestItself();
        eachBeforeTheNext();
        eachPair();
        roundAndRound();
        CHECKS.end();
    }

    private static LinePair turned(int controller, int lowest) {
        LinePair pair = Pairs.ready();
        pair.write(controller, 0, Pairs.TURN + lowest);
        return pair;
    }

    private static void raiseAll(LinePair pair, int controller) {
        for (int line = 0; line <= 7; line++) {
            Pairs.move(pair, controller, line, true);
        }
    }

    private static void lowestAtFirst() {
        CHECKS.sentence("the LOWEST line (7 at first)");
        for (int controller = 0; controller <= 1; controller++) {
            CHECKS.same("of a new object", new LinePair().about(controller, 4), 7);
            LinePair pair = Pairs.ready();
            raiseAll(pair, controller);
            CHECKS.same("delivered of all", pair.delivers(controller), 0);
        }
    }

    private static void behind7Is0() {
        CHECKS.sentence("the line behind it (behind 7 is 0)");
        for (int controller = 0; controller <= 1; controller++) {
            LinePair seven = turned(controller, 7);
            raiseAll(seven, controller);
            CHECKS.same("delivered when 7 is the lowest", seven.delivers(controller), 0);
            LinePair six = turned(controller, 6);
            Pairs.move(six, controller, 0, true);
            CHECKS.same("delivered of 0", six.delivers(controller), 0);
            Pairs.move(six, controller, 6, true);
            CHECKS.same("delivered of 0 and the lowest", six.delivers(controller), 0);
            Pairs.move(six, controller, 7, true);
            CHECKS.same("delivered when 6 is the lowest", six.delivers(controller), 7);
        }
    }

    private static void theLineBehindTheLowestIsTheHighest() {
        CHECKS.sentence("the line behind it (behind 7 is 0) has the highest priority");
        for (int controller = 0; controller <= 1; controller++) {
            for (int lowest = 0; lowest <= 7; lowest++) {
                LinePair pair = turned(controller, lowest);
                raiseAll(pair, controller);
                CHECKS.same("delivered when the lowest is " + lowest, pair.delivers(controller), (lowest + 1) % 8);
                CHECKS.same("the lowest", pair.about(controller, 4), lowest);
            }
        }
    }

    private static void theLowestItself() {
        CHECKS.sentence("itself the lowest");
        for (int controller = 0; controller <= 1; controller++) {
            for (int lowest = 0; lowest <= 7; lowest++) {
                for (int other = 0; other <= 7; other++) {
                    LinePair pair = turned(controller, lowest);
                    Pairs.move(pair, controller, lowest, true);
                    CHECKS.same("delivered of the lowest alone", pair.delivers(controller), lowest);
                    Pairs.move(pair, controller, other, true);
                    CHECKS.same("delivered of " + lowest + ", the lowest, and " + other,
                            pair.delivers(controller), other);
                }
            }
        }
    }

    private static void eachBeforeTheNext() {
        CHECKS.sentence("then the one behind that, and so on");
        for (int controller = 0; controller <= 1; controller++) {
            for (int lowest = 0; lowest <= 7; lowest++) {
                LinePair pair = turned(controller, lowest);
                raiseAll(pair, controller);
                for (int rank = 0; rank <= 7; rank++) {
                    int line = (lowest + 1 + rank) % 8;
                    CHECKS.same("place " + rank + " when the lowest is " + lowest, pair.delivers(controller), line);
                    Pairs.move(pair, controller, line, false);
                }
                CHECKS.same("behind the last", pair.delivers(controller), LinePair.NONE);
            }
        }
    }

    private static void eachPair() {
        CHECKS.sentence("the highest priority, then the one behind that, and so on (each two lines)");
        for (int controller = 0; controller <= 1; controller++) {
            for (int lowest = 0; lowest <= 7; lowest++) {
                for (int one = 0; one <= 7; one++) {
                    for (int other = 0; other < one; other++) {
                        LinePair pair = turned(controller, lowest);
                        Pairs.move(pair, controller, one, true);
                        Pairs.move(pair, controller, other, true);
                        boolean oneIsHigher = Pairs.rank(one, lowest) < Pairs.rank(other, lowest);
                        CHECKS.same("delivered of " + one + " and " + other + " when the lowest is " + lowest,
                                pair.delivers(controller), oneIsHigher ? one : other);
                    }
                }
            }
        }
    }

    private static void roundAndRound() {
        CHECKS.sentence("behind 7 is 0 (round and round, each taken line becoming the lowest)");
        for (int controller = 0; controller <= 1; controller++) {
            LinePair pair = Pairs.ready(Pairs.LEVELS, Pairs.ENDS_AT_ONCE, Pairs.LEVELS, Pairs.ENDS_AT_ONCE);
            pair.write(controller, 0, Pairs.TURNS_AT_ONCE_ON);
            raiseAll(pair, controller);
            for (int i = 0; i < 25; i++) {
                CHECKS.same("poll " + i, Pairs.poll(pair, controller), 128 + i % 8);
                CHECKS.same("lowest behind poll " + i, pair.about(controller, 4), i % 8);
            }
        }
    }
}
