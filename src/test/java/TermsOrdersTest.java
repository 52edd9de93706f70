/** Terms: the eight orders, words at port 0 without bits 4 and 3. */
public final class TermsOrdersTest {
    private static final Checks CHECKS = new Checks();

    private TermsOrdersTest() {
    }

    public static void main(String[] args) {
        CHECKS.sentence("0 turns at once is [...] off");
        eachCase(0);
        CHECKS.sentence("1 ENDS the line in service with the highest priority");
        eachCase(1);
        CHECKS.sentence("2 nothing");
        eachCase(2);
        CHECKS.sentence("3 ends line l (if it is in service)");
        eachCase(3);
        CHECKS.sentence("4 [...] turns at once is on");
        eachCase(4);
        CHECKS.sentence("5 [...] likewise, and the one that 5 ended [...] becomes the lowest (5: if there is one)");
        eachCase(5);
        CHECKS.sentence("6 l becomes the lowest");
        eachCase(6);
        CHECKS.sentence("7 likewise, and [...] l, becomes the lowest");
        eachCase(7);
        withSpecialMask();
        withSpecialMaskALineByItsNumber();
        ofOneThatIsNotReady();
        deliversThen();
        CHECKS.end();
    }

    /** Every set of lines in service, every place of the lowest, every line l; turns at once on and off before. */
    private static void eachCase(int order) {
        for (int controller = 0; controller <= 1; controller++) {
            for (int inService = 0; inService <= 255; inService++) {
                for (int lowest = 0; lowest <= 7; lowest++) {
                    boolean namesALine = order == 3 || order == 6 || order == 7;
                    for (int line = 0; line <= (namesALine ? 7 : 1); line++) {
                        int l = namesALine ? line : 3 * line + 2;
                        oneCase(order, controller, inService, lowest, l);
                    }
                }
            }
        }
    }

    private static void oneCase(int order, int controller, int inService, int lowest, int l) {
        boolean turnedAtOnce = (inService + l) % 2 == 1;
        LinePair pair = serving(controller, inService);
        pair.write(controller, 0, turnedAtOnce ? Pairs.TURNS_AT_ONCE_ON : Pairs.TURNS_AT_ONCE_OFF);
        pair.write(controller, 0, Pairs.TURN + lowest);
        pair.write(controller, 0, order << 5 | l);
        int ended = endedBy(order, inService, lowest, l);
        boolean turns = order == 6 || order == 7 || order == 5 && ended != LinePair.NONE;
        String what = " behind order " + order + " of " + l + " with " + inService + " in service, lowest " + lowest;
        CHECKS.same("in service" + what, pair.about(controller, 1),
                ended == LinePair.NONE ? inService : inService & ~(1 << ended));
        CHECKS.same("lowest" + what, pair.about(controller, 4), !turns ? lowest : order == 5 ? ended : l);
        CHECKS.same("turns at once" + what, pair.mode(controller, 5), order == 4 || order != 0 && turnedAtOnce);
        CHECKS.same("ended by words" + what, pair.count(2), ended == LinePair.NONE ? 0 : 1);
        CHECKS.same("the rest" + what, restOf(pair, controller), "0 0 0 0 true false false false false false");
    }

    private static int endedBy(int order, int inService, int lowest, int l) {
        if (order == 1 || order == 5) {
            return highest(inService, lowest);
        }
        boolean named = order == 3 || order == 7;
        return named && (inService >> l & 1) != 0 ? l : LinePair.NONE;
    }

    private static int highest(int lines, int lowest) {
        for (int behind = 1; behind <= 8; behind++) {
            int line = (lowest + behind) % 8;
            if ((lines >> line & 1) != 0) {
                return line;
            }
        }
        return LinePair.NONE;
    }

    /** From the lowest up, so that none blocks the next. */
    private static LinePair serving(int controller, int inService) {
        LinePair pair = Pairs.ready();
        for (int line = 7; line >= 0; line--) {
            if ((inService >> line & 1) != 0) {
                Pairs.serve(pair, controller, line);
            }
        }
        return pair;
    }

    private static String restOf(LinePair pair, int controller) {
        StringBuilder text = new StringBuilder();
        for (int what : new int[] {0, 2, 6, 7}) {
            text.append(pair.about(controller, what)).append(' ');
        }
        for (int which : new int[] {0, 1, 2, 3, 4, 6}) {
            text.append(pair.mode(controller, which)).append(which == 6 ? "" : " ");
        }
        return text.toString();
    }

    private static void withSpecialMask() {
        CHECKS.sentence("(with special mask: of those that are not masked)");
        for (int ways = 0; ways < 2 * 256 * 8; ways++) {
            int controller = ways & 1;
            int inService = ways >> 1 & 255;
            int lowest = ways >> 9;
            for (int mask : new int[] {0x00, 0x0F, 0xAA, 0xFF}) {
                for (int order : new int[] {1, 5}) {
                    withSpecialMask(controller, inService, lowest, mask, order);
                }
            }
        }
    }

    private static void withSpecialMask(int controller, int inService, int lowest, int mask, int order) {
        LinePair pair = serving(controller, inService);
        pair.write(controller, 1, mask);
        pair.write(controller, 0, Pairs.SPECIAL_MASK_ON);
        pair.write(controller, 0, Pairs.TURN + lowest);
        pair.write(controller, 0, order << 5);
        int ended = highest(inService & ~mask, lowest);
        String what = " behind order " + order + ", " + inService + " in service, lowest " + lowest + ", mask " + mask;
        CHECKS.same("in service" + what, pair.about(controller, 1),
                ended == LinePair.NONE ? inService : inService & ~(1 << ended));
        CHECKS.same("lowest" + what, pair.about(controller, 4),
                order == 5 && ended != LinePair.NONE ? ended : lowest);
        CHECKS.same("ended by words" + what, pair.count(2), ended == LinePair.NONE ? 0 : 1);
        CHECKS.same("masked" + what, pair.about(controller, 2), mask);
    }

    private static void withSpecialMaskALineByItsNumber() {
        CHECKS.sentence("3 ends line l (if it is in service); [...] 7 likewise (masked or not, special mask or not)");
        for (int controller = 0; controller <= 1; controller++) {
            for (int line = 0; line <= 7; line++) {
                for (int order : new int[] {3, 7}) {
                    for (int special = 0; special <= 1; special++) {
                        LinePair pair = serving(controller, 255);
                        pair.write(controller, 1, 255);
                        pair.write(controller, 0, special == 1 ? Pairs.SPECIAL_MASK_ON : Pairs.SPECIAL_MASK_OFF);
                        pair.write(controller, 0, order << 5 | line);
                        CHECKS.same("in service", pair.about(controller, 1), 255 - (1 << line));
                        CHECKS.same("lowest", pair.about(controller, 4), order == 7 ? line : 7);
                    }
                }
            }
        }
        LinePair plain = serving(Pairs.CHIEF, 0x30);
        plain.write(Pairs.CHIEF, 1, 0x10);
        plain.write(Pairs.CHIEF, 0, Pairs.END_HIGHEST);
        CHECKS.same("1 without special mask ends a masked line", plain.about(0, 1), 0x20);
    }

    private static void ofOneThatIsNotReady() {
        CHECKS.sentence("PORT 0 without bits 4 and 3 (also when it is not ready)");
        for (int controller = 0; controller <= 1; controller++) {
            LinePair pair = new LinePair();
            pair.write(controller, 0, Pairs.END_HIGHEST_AND_TURN + 3);
            CHECKS.same("lowest behind 5 with none in service", pair.about(controller, 4), 7);
            pair.write(controller, 0, Pairs.TURN + 3);
            CHECKS.same("lowest behind 6", pair.about(controller, 4), 3);
            pair.write(controller, 0, Pairs.END_LINE_AND_TURN);
            CHECKS.same("lowest behind 7", pair.about(controller, 4), 0);
            pair.write(controller, 0, Pairs.TURNS_AT_ONCE_ON + 7);
            CHECKS.same("turns at once behind 4", pair.mode(controller, 5), true);
            pair.write(controller, 0, Pairs.TURNS_AT_ONCE_OFF + 7);
            CHECKS.same("turns at once behind 0", pair.mode(controller, 5), false);
            CHECKS.same("ended by words", pair.count(2), 0);
            CHECKS.same("ready", pair.mode(controller, 0), false);
        }
    }

    private static void deliversThen() {
        CHECKS.sentence("ENDS the line in service (so that it blocks no more)");
        for (int controller = 0; controller <= 1; controller++) {
            for (int order : new int[] {1, 3, 5, 7}) {
                LinePair pair = Pairs.byLevels();
                Pairs.serve(pair, controller, 1);
                Pairs.move(pair, controller, 1, true);
                Pairs.move(pair, controller, 6, true);
                CHECKS.same("before order " + order, pair.delivers(controller), LinePair.NONE);
                CHECKS.same("the chief then", pair.write(controller, 0, order << 5 | 1), true);
                CHECKS.same("behind order " + order, pair.delivers(controller), order < 4 ? 1 : 6);
            }
        }
    }
}
