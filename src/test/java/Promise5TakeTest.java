/** Promise 5: take. */
public final class Promise5TakeTest {
    private static final Checks CHECKS = new Checks();

    private Promise5TakeTest() {
    }

    public static void main(String[] args) {
        everyLineOfTheChief();
        everyLineOfTheHelper();
        nothingDelivered();
        bothTakeOverLine2();
        line2ComesUpAgain();
        line2ComesUpAgainByLevels();
        line2IsTakenAgainWithSpecialNesting();
        endsAtOnce();
        endsAndTurnsAtOnce();
        turnsAtOnceAlone();
        CHECKS.end();
    }

    private static void everyLineOfTheChief() {
        for (int line = 0; line <= 7; line++) {
            if (line != 2) {
                LinePair pair = Pairs.ready();
                Pairs.raise(pair, line);
                CHECKS.same("take of " + line, pair.take(), Pairs.CHIEF_BASE + line);
                CHECKS.same("in service", pair.about(0, 1), 1 << line);
                CHECKS.same("requested", pair.about(0, 0), 0);
                CHECKS.same("helper's in service", pair.about(1, 1), 0);
            }
        }
    }

    private static void everyLineOfTheHelper() {
        for (int line = 0; line <= 7; line++) {
            LinePair pair = Pairs.ready();
            Pairs.raise(pair, 8 + line);
            CHECKS.same("take of " + line, pair.take(), Pairs.HELPER_BASE + line);
            CHECKS.same("helper's in service", pair.about(1, 1), 1 << line);
            CHECKS.same("helper's requested", pair.about(1, 0), 0);
            CHECKS.same("chief's in service", pair.about(0, 1), 4);
        }
    }

    private static void nothingDelivered() {
        CHECKS.same("never begun", new LinePair().take(), 7);
        LinePair pair = Pairs.ready();
        CHECKS.same("nothing requested", pair.take(), Pairs.CHIEF_BASE + 7);
        CHECKS.same("nothing in service", pair.about(0, 1), 0);
        Pairs.raise(pair, 3);
        pair.take();
        Pairs.raise(pair, 4, 9);
        pair.take();
        CHECKS.same("all blocked", pair.take(), Pairs.CHIEF_BASE + 7);
        CHECKS.same("in service", pair.about(0, 1), 12);
        CHECKS.same("requested", pair.about(0, 0), 16);
        pair.write(Pairs.CHIEF, 0, 0x10);
        CHECKS.same("words awaited: the earlier base", pair.take(), Pairs.CHIEF_BASE + 7);
        pair.write(Pairs.CHIEF, 1, 0xF8);
        CHECKS.same("words awaited: the newer base", pair.take(), 0xFF);
    }

    private static void bothTakeOverLine2() {
        LinePair pair = Pairs.ready();
        Pairs.raise(pair, 12);
        CHECKS.same("take", pair.take(), Pairs.HELPER_BASE + 4);
        CHECKS.same("line 2 is down", pair.about(0, 3), 0);
        CHECKS.same("line 2 is not requested", pair.about(0, 0), 0);
        Pairs.raise(pair, 9);
        CHECKS.same("line 2 blocks itself", pair.take(), Pairs.CHIEF_BASE + 7);
        pair.write(Pairs.CHIEF, 0, Pairs.END_HIGHEST);
        CHECKS.same("take behind the end", pair.take(), Pairs.HELPER_BASE + 1);
        CHECKS.same("helper's in service", pair.about(1, 1), 0x12);
    }

    private static void line2ComesUpAgain() {
        LinePair pair = Pairs.ready(Pairs.EDGES, Pairs.PLAIN, Pairs.EDGES, Pairs.ENDS_AT_ONCE);
        Pairs.raise(pair, 9, 13);
        CHECKS.same("take", pair.take(), Pairs.HELPER_BASE + 1);
        CHECKS.same("line 2 is up", pair.about(0, 3), 4);
        CHECKS.same("line 2 came up anew", pair.about(0, 0), 4);
        pair.write(Pairs.CHIEF, 0, Pairs.END_HIGHEST);
        CHECKS.same("the second take", pair.take(), Pairs.HELPER_BASE + 5);
        CHECKS.same("line 2 is down", pair.about(0, 3) + pair.about(0, 0), 0);
    }

    private static void line2ComesUpAgainByLevels() {
        LinePair pair = Pairs.ready(Pairs.LEVELS, Pairs.ENDS_AT_ONCE, Pairs.LEVELS, Pairs.ENDS_AT_ONCE);
        Pairs.raise(pair, 9);
        CHECKS.same("take", pair.take(), Pairs.HELPER_BASE + 1);
        CHECKS.same("take again", pair.take(), Pairs.HELPER_BASE + 1);
        CHECKS.same("line 2 is up", pair.about(0, 3), 4);
        Pairs.lower(pair, 9);
        CHECKS.same("take when down", pair.take(), Pairs.CHIEF_BASE + 7);
    }

    private static void line2IsTakenAgainWithSpecialNesting() {
        LinePair pair = Pairs.ready(Pairs.EDGES, Pairs.SPECIAL_NESTING, Pairs.EDGES, Pairs.PLAIN);
        Pairs.raise(pair, 12);
        pair.take();
        Pairs.raise(pair, 9);
        CHECKS.same("take", pair.take(), Pairs.HELPER_BASE + 1);
        CHECKS.same("chief's in service", pair.about(0, 1), 4);
        CHECKS.same("helper's in service", pair.about(1, 1), 0x12);
    }

    private static void endsAtOnce() {
        LinePair pair = Pairs.ready(Pairs.EDGES, Pairs.ENDS_AT_ONCE, Pairs.EDGES, Pairs.PLAIN);
        Pairs.raise(pair, 4, 1, 6);
        CHECKS.same("first", pair.take(), Pairs.CHIEF_BASE + 1);
        CHECKS.same("nothing in service", pair.about(0, 1), 0);
        CHECKS.same("requested no more", pair.about(0, 0), 0x50);
        CHECKS.same("second", pair.take(), Pairs.CHIEF_BASE + 4);
        CHECKS.same("lowest", pair.about(0, 4), 7);
        CHECKS.same("no line ended by a word", pair.count(2), 0);
    }

    private static void endsAndTurnsAtOnce() {
        LinePair pair = Pairs.ready(Pairs.LEVELS, Pairs.ENDS_AT_ONCE, Pairs.EDGES, Pairs.PLAIN);
        pair.write(Pairs.CHIEF, 0, Pairs.TURNS_AT_ONCE_ON);
        Pairs.raise(pair, 1, 4, 6);
        for (int line : new int[] {1, 4, 6, 1}) {
            CHECKS.same("take", pair.take(), Pairs.CHIEF_BASE + line);
            CHECKS.same("lowest", pair.about(0, 4), line);
        }
        pair.write(Pairs.CHIEF, 0, Pairs.TURNS_AT_ONCE_OFF);
        pair.take();
        CHECKS.same("lowest when off", pair.about(0, 4), 1);
    }

    private static void turnsAtOnceAlone() {
        LinePair pair = Pairs.ready();
        pair.write(Pairs.CHIEF, 0, Pairs.TURNS_AT_ONCE_ON);
        Pairs.raise(pair, 4);
        pair.take();
        CHECKS.same("in service", pair.about(0, 1), 16);
        CHECKS.same("lowest without ends at once", pair.about(0, 4), 7);
    }
}
