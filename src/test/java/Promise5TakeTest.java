/** Promise 5: take. */
public final class Promise5TakeTest {
    private static final Checks CHECKS = new Checks();

    private Promise5TakeTest() {
    }

    public static void main(String[] args) {
        everyLineOfTheChief();
        everyLineOfTheHelper();
        everyBase();
        nothingDelivered();
        nothingDeliveredForEachReason();
        nothingDeliveredChangesNothing();
        bothTakeOverLine2();
        theHelperTakesNothingWithoutLine2();
        line2GoesDown();
        line2ComesUpAgainForEachTwoLines();
        line2ComesUpAgain();
        line2ComesUpAgainByLevels();
        line2IsTakenAgainWithSpecialNesting();
        endsAtOnce();
        endsAndTurnsAtOnce();
        turnsAtOnceAlone();
        CHECKS.end();
    }

    private static void everyLineOfTheChief() {
        CHECKS.sentence("The chief takes the line that it delivers: its base + the line");
        for (int line = 0; line <= 7; line++) {
            if (line != 2) {
                LinePair pair = Pairs.ready();
                Pairs.raise(pair, line);
                CHECKS.same("take of " + line, pair.take(), Pairs.CHIEF_BASE + line);
                CHECKS.same("in service", pair.about(0, 1), 1 << line);
                CHECKS.same("requested", pair.about(0, 0), 0);
                CHECKS.same("helper's in service", pair.about(1, 1), 0);
            }
        }
    }

    private static void everyLineOfTheHelper() {
        CHECKS.sentence("If that line is 2, the helper takes the line that it delivers, too, "
                + "and the answer is its base + that line");
        for (int line = 0; line <= 7; line++) {
            LinePair pair = Pairs.ready();
            Pairs.raise(pair, 8 + line);
            CHECKS.same("take of " + line, pair.take(), Pairs.HELPER_BASE + line);
            CHECKS.same("helper's in service", pair.about(1, 1), 1 << line);
            CHECKS.same("helper's requested", pair.about(1, 0), 0);
            CHECKS.same("chief's in service", pair.about(0, 1), 4);
        }
    }

    private static void everyBase() {
        CHECKS.sentence("its base + the line; [...] its base + that line (every base)");
        for (int base = 0; base <= 248; base += 8) {
            int other = 248 - base;
            for (int line = 0; line <= 7; line++) {
                LinePair pair = new LinePair();
                for (int controller = 0; controller <= 1; controller++) {
                    pair.write(controller, 0, 0x10);
                    pair.write(controller, 1, controller == Pairs.CHIEF ? base : other);
                    pair.write(controller, 1, 0);
                }
                CHECKS.same("nothing with the base " + base, pair.take(), base + 7);
                pair.line(8 + line, true);
                CHECKS.same("the helper's " + line + " with the base " + other, pair.take(), other + line);
                pair.write(Pairs.CHIEF, 0, Pairs.END_HIGHEST);
                int own = line == 2 ? 3 : line;
                pair.line(own, true);
                CHECKS.same("the chief's " + own + " with the base " + base, pair.take(), base + own);
            }
        }
    }

    private static void nothingDeliveredForEachReason() {
        CHECKS.sentence("if it delivers none, base + 7 (masked, blocked, or only the helper's)");
        LinePair masked = Pairs.ready();
        Pairs.raise(masked, 0, 7, 9);
        masked.write(Pairs.CHIEF, 1, 255);
        CHECKS.same("all masked", masked.take(), Pairs.CHIEF_BASE + 7);
        CHECKS.same("in service", masked.about(0, 1) + masked.about(1, 1), 0);
        LinePair blocked = Pairs.byLevels();
        Pairs.raise(blocked, 0);
        blocked.take();
        Pairs.raise(blocked, 1, 9);
        CHECKS.same("all blocked", blocked.take(), Pairs.CHIEF_BASE + 7);
        LinePair helpers = Pairs.ready();
        Pairs.begin(helpers, Pairs.CHIEF, 0x10, 0);
        Pairs.raise(helpers, 12);
        Pairs.poll(helpers, Pairs.CHIEF);
        CHECKS.same("the helper's alone", helpers.take(), Pairs.CHIEF_BASE + 7);
        CHECKS.same("the helper still delivers", helpers.delivers(1), 4);
    }

    private static void nothingDeliveredChangesNothing() {
        CHECKS.sentence("if it delivers none, base + 7 (and nothing is taken, line 7 neither)");
        LinePair requested = Pairs.ready();
        Pairs.raise(requested, 7, 15);
        requested.write(Pairs.CHIEF, 1, 255);
        takeChangesNothing("with 7 requested", requested);
        LinePair served = Pairs.byLevels();
        for (int line = 7; line >= 0; line--) {
            Pairs.serve(served, Pairs.CHIEF, line);
        }
        Pairs.raise(served, 7, 12);
        served.write(Pairs.CHIEF, 0, Pairs.TURN + 3);
        served.write(Pairs.CHIEF, 0, Pairs.POLL | Pairs.READ_IN_SERVICE);
        takeChangesNothing("with all in service", served);
        LinePair atOnce = Pairs.ready(Pairs.LEVELS, Pairs.ENDS_AT_ONCE, Pairs.LEVELS, Pairs.ENDS_AT_ONCE);
        atOnce.write(Pairs.CHIEF, 0, Pairs.TURNS_AT_ONCE_ON);
        atOnce.write(Pairs.CHIEF, 0, Pairs.TURN + 3);
        takeChangesNothing("when it ends and turns at once", atOnce);
        LinePair awaiting = Pairs.ready();
        Pairs.raise(awaiting, 7, 15);
        awaiting.write(Pairs.CHIEF, 0, Pairs.LEVELS);
        takeChangesNothing("with words awaited", awaiting);
        takeChangesNothing("before it began", new LinePair());
    }

    private static void takeChangesNothing(String when, LinePair pair) {
        String before = Pairs.stateOf(pair).split("; count")[0];
        int taken = pair.count(0);
        CHECKS.same("the answer " + when, pair.take(), pair.about(0, 5) + 7);
        CHECKS.same("the state " + when, Pairs.stateOf(pair).split("; count")[0], before);
        CHECKS.same("lines taken " + when, pair.count(0), taken);
        CHECKS.same("answers with nothing " + when, pair.count(1), 1);
        CHECKS.same("lines ended " + when, pair.count(2), 0);
    }

    private static void theHelperTakesNothingWithoutLine2() {
        CHECKS.sentence("If that line is 2 (else the helper takes nothing)");
        for (int line : new int[] {0, 1}) {
            LinePair pair = Pairs.ready();
            Pairs.raise(pair, 12, line);
            CHECKS.same("take", pair.take(), Pairs.CHIEF_BASE + line);
            CHECKS.same("the helper's in service", pair.about(1, 1), 0);
            CHECKS.same("the helper delivers", pair.delivers(1), 4);
            CHECKS.same("line 2 is up and requested", pair.about(0, 3) & pair.about(0, 0) & 4, 4);
            CHECKS.same("lines taken", pair.count(0), 1);
        }
    }

    private static void line2GoesDown() {
        CHECKS.sentence("the chief's line 2 goes down then (if the helper delivers no more)");
        for (int first : new int[] {Pairs.EDGES, Pairs.LEVELS}) {
            for (int line = 0; line <= 7; line++) {
                LinePair pair = Pairs.ready(first, Pairs.PLAIN, first, Pairs.PLAIN);
                for (int k = 8 + line; k <= 15; k++) {
                    Pairs.raise(pair, k);
                }
                CHECKS.same("take", pair.take(), Pairs.HELPER_BASE + line);
                CHECKS.same("the helper delivers", pair.delivers(1), LinePair.NONE);
                CHECKS.same("line 2 is up", pair.about(0, 3), 0);
                CHECKS.same("line 2 is requested", pair.about(0, 0), 0);
            }
        }
    }

    /** A helper that ends at once delivers the second line behind the first; the chief ends at once or not. */
    private static void line2ComesUpAgainForEachTwoLines() {
        CHECKS.sentence("goes down then, and comes up again if the helper delivers behind that (each two lines)");
        for (int chiefsFourth : new int[] {Pairs.PLAIN, Pairs.ENDS_AT_ONCE, Pairs.SPECIAL_NESTING}) {
            for (int one = 0; one <= 7; one++) {
                for (int other = one + 1; other <= 7; other++) {
                    LinePair pair = Pairs.ready(Pairs.EDGES, chiefsFourth, Pairs.EDGES, Pairs.ENDS_AT_ONCE);
                    Pairs.raise(pair, 8 + one, 8 + other);
                    CHECKS.same("take", pair.take(), Pairs.HELPER_BASE + one);
                    CHECKS.same("line 2 is up", pair.about(0, 3), 4);
                    CHECKS.same("line 2 is requested anew", pair.about(0, 0), 4);
                    boolean blocked = chiefsFourth == Pairs.PLAIN;
                    CHECKS.same("the second take", pair.take(),
                            blocked ? Pairs.CHIEF_BASE + 7 : Pairs.HELPER_BASE + other);
                    CHECKS.same("line 2 at last", pair.about(0, 3), blocked ? 4 : 0);
                }
            }
        }
    }

    private static void nothingDelivered() {
        CHECKS.sentence("if it delivers none, base + 7");
        CHECKS.same("never begun", new LinePair().take(), 7);
        LinePair pair = Pairs.ready();
        CHECKS.same("nothing requested", pair.take(), Pairs.CHIEF_BASE + 7);
        CHECKS.same("nothing in service", pair.about(0, 1), 0);
        Pairs.raise(pair, 3);
        pair.take();
        Pairs.raise(pair, 4, 9);
        pair.take();
        CHECKS.same("all blocked", pair.take(), Pairs.CHIEF_BASE + 7);
        CHECKS.same("in service", pair.about(0, 1), 12);
        CHECKS.same("requested", pair.about(0, 0), 16);
        pair.write(Pairs.CHIEF, 0, 0x10);
        CHECKS.same("words awaited: the earlier base", pair.take(), Pairs.CHIEF_BASE + 7);
        pair.write(Pairs.CHIEF, 1, 0xF8);
        CHECKS.same("words awaited: the newer base", pair.take(), 0xFF);
    }

    private static void bothTakeOverLine2() {
        CHECKS.sentence("the chief's line 2 goes down then");
        LinePair pair = Pairs.ready();
        Pairs.raise(pair, 12);
        CHECKS.same("take", pair.take(), Pairs.HELPER_BASE + 4);
        CHECKS.same("line 2 is down", pair.about(0, 3), 0);
        CHECKS.same("line 2 is not requested", pair.about(0, 0), 0);
        Pairs.raise(pair, 9);
        CHECKS.same("line 2 blocks itself", pair.take(), Pairs.CHIEF_BASE + 7);
        pair.write(Pairs.CHIEF, 0, Pairs.END_HIGHEST);
        CHECKS.same("take behind the end", pair.take(), Pairs.HELPER_BASE + 1);
        CHECKS.same("helper's in service", pair.about(1, 1), 0x12);
    }

    private static void line2ComesUpAgain() {
        CHECKS.sentence("and comes up again if the helper delivers behind that");
        LinePair pair = Pairs.ready(Pairs.EDGES, Pairs.PLAIN, Pairs.EDGES, Pairs.ENDS_AT_ONCE);
        Pairs.raise(pair, 9, 13);
        CHECKS.same("take", pair.take(), Pairs.HELPER_BASE + 1);
        CHECKS.same("line 2 is up", pair.about(0, 3), 4);
        CHECKS.same("line 2 came up anew", pair.about(0, 0), 4);
        pair.write(Pairs.CHIEF, 0, Pairs.END_HIGHEST);
        CHECKS.same("the second take", pair.take(), Pairs.HELPER_BASE + 5);
        CHECKS.same("line 2 is down", pair.about(0, 3) + pair.about(0, 0), 0);
    }

    private static void line2ComesUpAgainByLevels() {
        CHECKS.sentence("and comes up again if the helper delivers behind that (by levels)");
        LinePair pair = Pairs.ready(Pairs.LEVELS, Pairs.ENDS_AT_ONCE, Pairs.LEVELS, Pairs.ENDS_AT_ONCE);
        Pairs.raise(pair, 9);
        CHECKS.same("take", pair.take(), Pairs.HELPER_BASE + 1);
        CHECKS.same("take again", pair.take(), Pairs.HELPER_BASE + 1);
        CHECKS.same("line 2 is up", pair.about(0, 3), 4);
        Pairs.lower(pair, 9);
        CHECKS.same("take when down", pair.take(), Pairs.CHIEF_BASE + 7);
    }

    private static void line2IsTakenAgainWithSpecialNesting() {
        CHECKS.sentence("with SPECIAL NESTING the chief's line 2 does not block itself");
        LinePair pair = Pairs.ready(Pairs.EDGES, Pairs.SPECIAL_NESTING, Pairs.EDGES, Pairs.PLAIN);
        Pairs.raise(pair, 12);
        pair.take();
        Pairs.raise(pair, 9);
        CHECKS.same("take", pair.take(), Pairs.HELPER_BASE + 1);
        CHECKS.same("chief's in service", pair.about(0, 1), 4);
        CHECKS.same("helper's in service", pair.about(1, 1), 0x12);
    }

    private static void endsAtOnce() {
        CHECKS.sentence("but with ENDS AT ONCE it does not");
        LinePair pair = Pairs.ready(Pairs.EDGES, Pairs.ENDS_AT_ONCE, Pairs.EDGES, Pairs.PLAIN);
        Pairs.raise(pair, 4, 1, 6);
        CHECKS.same("first", pair.take(), Pairs.CHIEF_BASE + 1);
        CHECKS.same("nothing in service", pair.about(0, 1), 0);
        CHECKS.same("requested no more", pair.about(0, 0), 0x50);
        CHECKS.same("second", pair.take(), Pairs.CHIEF_BASE + 4);
        CHECKS.same("lowest", pair.about(0, 4), 7);
        CHECKS.same("no line ended by a word", pair.count(2), 0);
    }

    private static void endsAndTurnsAtOnce() {
        CHECKS.sentence("and then, with TURNS AT ONCE, it becomes the lowest");
        LinePair pair = Pairs.ready(Pairs.LEVELS, Pairs.ENDS_AT_ONCE, Pairs.EDGES, Pairs.PLAIN);
        pair.write(Pairs.CHIEF, 0, Pairs.TURNS_AT_ONCE_ON);
        Pairs.raise(pair, 1, 4, 6);
        for (int line : new int[] {1, 4, 6, 1}) {
            CHECKS.same("take", pair.take(), Pairs.CHIEF_BASE + line);
            CHECKS.same("lowest", pair.about(0, 4), line);
        }
        pair.write(Pairs.CHIEF, 0, Pairs.TURNS_AT_ONCE_OFF);
        pair.take();
        CHECKS.same("lowest when off", pair.about(0, 4), 1);
    }

    private static void turnsAtOnceAlone() {
        CHECKS.sentence("with ENDS AT ONCE [...] and then, with TURNS AT ONCE (not without ENDS AT ONCE)");
        LinePair pair = Pairs.ready();
        pair.write(Pairs.CHIEF, 0, Pairs.TURNS_AT_ONCE_ON);
        Pairs.raise(pair, 4);
        pair.take();
        CHECKS.same("in service", pair.about(0, 1), 16);
        CHECKS.same("lowest without ends at once", pair.about(0, 4), 7);
    }
}
