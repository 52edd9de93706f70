/** Terms: TO DELIVER. */
public final class TermsDeliverTest {
    private static final Checks CHECKS = new Checks();

    private TermsDeliverTest() {
    }

    public static void main(String[] args) {
        requestedAndNotMasked();
        theSameOrAHigherPriorityBlocks();
        thoseInServiceBlock();
        oneOfSeveralInServiceBlocks();
        withSpecialMaskOnlyThoseNotMasked();
        withSpecialMaskAMaskedLineIsNotDelivered();
        withSpecialNestingLine2DoesNotBlockItself();
        withSpecialNestingOthersBlockLine2();
        withSpecialNestingLine2BlocksOthers();
        withSpecialNestingOtherLinesBlockThemselves();
        specialNestingIsTheChiefs();
        withoutSpecialNestingLine2BlocksItself();
        notReadyDeliversNothing();
        whetherTheChiefDelivers();
        CHECKS.end();
    }

    private static void requestedAndNotMasked() {
        CHECKS.sentence("of the lines that are requested and not masked, that with the highest priority");
        int[] masks = {0, 1, 2, 4, 8, 16, 32, 64, 128, 0x0F, 0xF0, 0x55, 0xAA, 0x7F, 0xFE, 0xFF};
        for (int controller = 0; controller <= 1; controller++) {
            for (int mask : masks) {
                for (int requested = 0; requested <= 255; requested++) {
                    LinePair pair = Pairs.ready();
                    for (int line = 0; line <= 7; line++) {
                        if ((requested >> line & 1) != 0) {
                            Pairs.move(pair, controller, line, true);
                        }
                    }
                    pair.write(controller, 1, mask);
                    int left = requested & ~mask;
                    CHECKS.same("delivered of " + requested + " with the mask " + mask, pair.delivers(controller),
                            left == 0 ? LinePair.NONE : Integer.numberOfTrailingZeros(left));
                }
            }
        }
    }

    /** One line is in service, another, or the same, is requested, for each place of the lowest. */
    private static void theSameOrAHigherPriorityBlocks() {
        CHECKS.sentence("if none that BLOCKS has the same or a higher priority");
        for (int controller = 0; controller <= 1; controller++) {
            for (int lowest = 0; lowest <= 7; lowest++) {
                for (int served = 0; served <= 7; served++) {
                    for (int requested = 0; requested <= 7; requested++) {
                        LinePair pair = Pairs.byLevels();
                        Pairs.serve(pair, controller, served);
                        pair.write(controller, 0, Pairs.TURN + lowest);
                        Pairs.move(pair, controller, requested, true);
                        boolean higher = Pairs.rank(requested, lowest) < Pairs.rank(served, lowest);
                        CHECKS.same(requested + " delivered over " + served + " when the lowest is " + lowest,
                                pair.delivers(controller), higher ? requested : LinePair.NONE);
                    }
                }
            }
        }
    }

    private static void thoseInServiceBlock() {
        CHECKS.sentence("Those in service block (masked or not, requested or not)");
        for (int controller = 0; controller <= 1; controller++) {
            LinePair pair = Pairs.ready();
            Pairs.serve(pair, controller, 3);
            Pairs.move(pair, controller, 4, true);
            CHECKS.same("4 when 3 is in service", pair.delivers(controller), LinePair.NONE);
            pair.write(controller, 1, 0x08);
            CHECKS.same("4 when 3 is masked, too", pair.delivers(controller), LinePair.NONE);
            pair.write(controller, 1, 0x00);
            pair.write(controller, 0, Pairs.END_LINE + 3);
            CHECKS.same("4 when 3 has ended", pair.delivers(controller), 4);
        }
    }

    private static void oneOfSeveralInServiceBlocks() {
        CHECKS.sentence("if none that BLOCKS has the same or a higher priority (several in service)");
        for (int controller = 0; controller <= 1; controller++) {
            LinePair pair = Pairs.ready();
            Pairs.serve(pair, controller, 6);
            Pairs.serve(pair, controller, 3);
            Pairs.move(pair, controller, 4, true);
            CHECKS.same("4, between 3 and 6", pair.delivers(controller), LinePair.NONE);
            Pairs.move(pair, controller, 1, true);
            CHECKS.same("1, above both", pair.delivers(controller), 1);
            Pairs.move(pair, controller, 1, false);
            pair.write(controller, 0, Pairs.END_LINE + 6);
            CHECKS.same("4 when 6 has ended", pair.delivers(controller), LinePair.NONE);
            pair.write(controller, 0, Pairs.END_LINE + 3);
            CHECKS.same("4 when 3 has ended", pair.delivers(controller), 4);
        }
    }

    /** Lines 1 and 5 are in service; each line is asked for, under each mask of the two. */
    private static void withSpecialMaskOnlyThoseNotMasked() {
        CHECKS.sentence("with SPECIAL MASK only those of them that are not masked");
        for (int controller = 0; controller <= 1; controller++) {
            for (int mask : new int[] {0x00, 0x02, 0x20, 0x22}) {
                for (int line = 0; line <= 7; line++) {
                    LinePair pair = Pairs.ready();
                    Pairs.serve(pair, controller, 5);
                    Pairs.serve(pair, controller, 1);
                    pair.write(controller, 1, mask);
                    pair.write(controller, 0, Pairs.SPECIAL_MASK_ON);
                    Pairs.move(pair, controller, line, true);
                    int blockers = 0x22 & ~mask;
                    int blocker = Integer.numberOfTrailingZeros(blockers);
                    boolean free = (mask >> line & 1) == 0 && line < blocker;
                    String what = line + " with the special mask " + mask;
                    CHECKS.same(what, pair.delivers(controller), free ? line : LinePair.NONE);
                    pair.write(controller, 0, Pairs.SPECIAL_MASK_OFF);
                    CHECKS.same(what + " switched off", pair.delivers(controller), line == 0 ? line : LinePair.NONE);
                }
            }
        }
    }

    private static void withSpecialMaskAMaskedLineIsNotDelivered() {
        CHECKS.sentence("requested and not masked (with SPECIAL MASK too)");
        for (int controller = 0; controller <= 1; controller++) {
            LinePair pair = Pairs.byLevels();
            Pairs.serve(pair, controller, 3);
            pair.write(controller, 0, Pairs.SPECIAL_MASK_ON);
            Pairs.move(pair, controller, 3, true);
            pair.write(controller, 1, 0x08);
            CHECKS.same("3, masked and in service", pair.delivers(controller), LinePair.NONE);
            Pairs.move(pair, controller, 7, true);
            CHECKS.same("7 behind it", pair.delivers(controller), 7);
        }
    }

    private static LinePair nesting() {
        return Pairs.ready(Pairs.LEVELS, Pairs.SPECIAL_NESTING, Pairs.LEVELS, Pairs.SPECIAL_NESTING);
    }

    private static void withSpecialNestingLine2DoesNotBlockItself() {
        CHECKS.sentence("with SPECIAL NESTING the chief's line 2 does not block itself");
        for (int lowest = 0; lowest <= 7; lowest++) {
            LinePair pair = nesting();
            Pairs.serve(pair, Pairs.CHIEF, 2);
            pair.write(Pairs.CHIEF, 0, Pairs.TURN + lowest);
            CHECKS.same("nothing when it is down", pair.delivers(0), LinePair.NONE);
            Pairs.move(pair, Pairs.CHIEF, 2, true);
            CHECKS.same("line 2 when the lowest is " + lowest, pair.delivers(0), 2);
            pair.write(Pairs.CHIEF, 1, 0x04);
            CHECKS.same("line 2 when masked", pair.delivers(0), LinePair.NONE);
        }
    }

    private static void withSpecialNestingOthersBlockLine2() {
        CHECKS.sentence("with SPECIAL NESTING [...] does not block itself (but others block it)");
        for (int other = 0; other <= 7; other++) {
            LinePair pair = nesting();
            Pairs.serve(pair, Pairs.CHIEF, other > 2 ? other : 2);
            Pairs.serve(pair, Pairs.CHIEF, other > 2 ? 2 : other);
            Pairs.move(pair, Pairs.CHIEF, 2, true);
            CHECKS.same("line 2 when " + other + " is in service", pair.delivers(0), other < 2 ? LinePair.NONE : 2);
        }
    }

    private static void withSpecialNestingLine2BlocksOthers() {
        CHECKS.sentence("with SPECIAL NESTING [...] does not block itself (but it blocks others)");
        for (int other = 0; other <= 7; other++) {
            if (other != 2) {
                LinePair pair = nesting();
                Pairs.serve(pair, Pairs.CHIEF, 2);
                Pairs.move(pair, Pairs.CHIEF, other, true);
                CHECKS.same(other + " when 2 is in service", pair.delivers(0), other < 2 ? other : LinePair.NONE);
                Pairs.move(pair, Pairs.CHIEF, 2, true);
                CHECKS.same(other + " and 2 when 2 is in service", pair.delivers(0), other < 2 ? other : 2);
            }
        }
    }

    private static void withSpecialNestingOtherLinesBlockThemselves() {
        CHECKS.sentence("with SPECIAL NESTING the chief's line 2 (and no other line)");
        for (int line = 0; line <= 7; line++) {
            LinePair pair = nesting();
            Pairs.serve(pair, Pairs.CHIEF, line);
            Pairs.move(pair, Pairs.CHIEF, line, true);
            CHECKS.same(line + " when it is in service", pair.delivers(0), line == 2 ? 2 : LinePair.NONE);
        }
    }

    private static void specialNestingIsTheChiefs() {
        CHECKS.sentence("with SPECIAL NESTING the chief's line 2 (and no line of the helper)");
        for (int line = 0; line <= 7; line++) {
            LinePair pair = nesting();
            Pairs.serve(pair, Pairs.HELPER, line);
            Pairs.move(pair, Pairs.HELPER, line, true);
            CHECKS.same("the helper's " + line + " when it is in service", pair.delivers(1), LinePair.NONE);
        }
    }

    private static void withoutSpecialNestingLine2BlocksItself() {
        CHECKS.sentence("with SPECIAL NESTING (the chief's, not without it)");
        LinePair pair = Pairs.ready(Pairs.LEVELS, Pairs.PLAIN, Pairs.LEVELS, Pairs.SPECIAL_NESTING);
        Pairs.serve(pair, Pairs.CHIEF, 2);
        Pairs.move(pair, Pairs.CHIEF, 2, true);
        CHECKS.same("line 2 when the helper alone has it", pair.delivers(0), LinePair.NONE);
    }

    private static void notReadyDeliversNothing() {
        CHECKS.sentence("A controller that is not READY delivers nothing.");
        for (int controller = 0; controller <= 1; controller++) {
            for (int first = 0x18; first <= 0x19; first++) {
                LinePair pair = new LinePair();
                Pairs.begin(pair, 1 - controller, Pairs.EDGES, Pairs.PLAIN);
                pair.line(8 * controller + 5, true);
                CHECKS.same("before it began", pair.delivers(controller), LinePair.NONE);
                pair.write(controller, 0, first);
                int last = first == 0x18 ? 3 : 4;
                for (int word = 2; word <= last; word++) {
                    CHECKS.same("when word " + word + " is awaited", pair.delivers(controller), LinePair.NONE);
                    pair.write(controller, 1, 0);
                }
                CHECKS.same("behind word " + last, pair.delivers(controller), 5);
                pair.write(controller, 0, first);
                CHECKS.same("from another beginning on", pair.delivers(controller), LinePair.NONE);
            }
        }
    }

    private static void whetherTheChiefDelivers() {
        CHECKS.sentence("UP is whether the chief delivers.");
        LinePair pair = Pairs.ready();
        CHECKS.same("with nothing", pair.write(Pairs.CHIEF, 0, Pairs.NOTHING), false);
        Pairs.raise(pair, 6);
        CHECKS.same("with a line of the chief", pair.write(Pairs.HELPER, 0, Pairs.NOTHING), true);
        Pairs.lower(pair, 6);
        CHECKS.same("with none", pair.write(Pairs.HELPER, 0, Pairs.NOTHING), false);
        Pairs.raise(pair, 15);
        CHECKS.same("with a line of the helper", pair.write(Pairs.CHIEF, 0, Pairs.NOTHING), true);
        pair.write(Pairs.CHIEF, 1, 0x04);
        CHECKS.same("when the helper alone delivers", pair.write(Pairs.HELPER, 0, Pairs.NOTHING), false);
    }
}
