/** Terms: a word at port 0 with bit 4, and the words that are awaited behind it. */
public final class TermsBeginTest {
    private static final Checks CHECKS = new Checks();

    private TermsBeginTest() {
    }

    public static void main(String[] args) {
        everyWordWithBit4Begins();
        noWordWithoutBit4Begins();
        nothingIsMaskedInServiceOrRequestedByAnEdge();
        theLowestIs7();
        byLevelsOrByEdges();
        modesAreOff();
        endsAtOnceIsOff();
        noPollWaitsAndReadIs0();
        whatABeginningLeaves();
        theSecondWordIsTheBase();
        theThirdMeansNothing();
        theFourthOnlyIfAsked();
        theFourthSetsTwoModes();
        readyBehindTheLast();
        aBeginningInTheMidst();
        wordsAtPort0InTheMidst();
        eachAwaitsForItself();
        CHECKS.end();
    }

    /** All that a beginning undoes, but for ends at once: with that, nothing comes to be in service. */
    private static LinePair used(int controller, int first) {
        LinePair pair = Pairs.ready();
        Pairs.begin(pair, controller, first, Pairs.SPECIAL_NESTING);
        Pairs.serve(pair, controller, 6);
        Pairs.move(pair, controller, 1, true);
        Pairs.poll(pair, controller);
        Pairs.move(pair, controller, 0, true);
        Pairs.move(pair, controller, 7, true);
        pair.write(controller, 1, 0x3C);
        pair.write(controller, 0, Pairs.TURN + 6);
        pair.write(controller, 0, Pairs.TURNS_AT_ONCE_ON);
        pair.write(controller, 0, Pairs.SPECIAL_MASK_ON | Pairs.POLL | Pairs.READ_IN_SERVICE);
        return pair;
    }

    private static String name(int controller) {
        return controller == Pairs.CHIEF ? "chief" : "helper";
    }

    private static int base(int controller) {
        return controller == Pairs.CHIEF ? Pairs.CHIEF_BASE : Pairs.HELPER_BASE;
    }

    private static void everyWordWithBit4Begins() {
        CHECKS.sentence("PORT 0 with bit 4: it BEGINS");
        for (int controller = 0; controller <= 1; controller++) {
            for (int first : new int[] {Pairs.EDGES, Pairs.LEVELS}) {
                String requested = first == Pairs.EDGES ? "129" : "131";
                CHECKS.same("the state before", Pairs.stateOf(used(controller, first), controller),
                        name(controller) + " " + requested + " 66 60 131 6 " + base(controller) + " 0 1 1"
                        + (first == Pairs.EDGES ? "0" : "1") + "11011 delivers 7");
                for (int word = 0; word <= 255; word++) {
                    if ((word & 16) != 0) {
                        LinePair pair = used(controller, first);
                        pair.write(controller, 0, word);
                        boolean levels = (word & 8) != 0;
                        CHECKS.same("the state behind " + word, Pairs.stateOf(pair, controller),
                                name(controller) + (levels ? " 131" : " 0") + " 0 0 131 7 " + base(controller)
                                + " 2 0 0" + (levels ? "1" : "0") + "00000 delivers -1");
                    }
                }
            }
        }
    }

    private static void noWordWithoutBit4Begins() {
        CHECKS.sentence("PORT 0 with bit 4 (and no other word, nor one at port 1)");
        for (int controller = 0; controller <= 1; controller++) {
            for (int word = 0; word <= 255; word++) {
                LinePair pair = Pairs.ready();
                pair.write(controller, 1, word);
                if ((word & 16) == 0) {
                    pair.write(controller, 0, word);
                }
                CHECKS.same("awaited behind " + word, pair.about(controller, 6), 0);
                CHECKS.same("ready behind " + word, pair.mode(controller, 0), true);
            }
        }
    }

    private static void nothingIsMaskedInServiceOrRequestedByAnEdge() {
        CHECKS.sentence("nothing is masked, in service, or requested by an edge");
        for (int controller = 0; controller <= 1; controller++) {
            for (int line = 0; line <= 7; line++) {
                LinePair pair = Pairs.ready();
                Pairs.serve(pair, controller, line);
                Pairs.move(pair, controller, line, true);
                pair.write(controller, 1, 1 << line);
                CHECKS.same("requested before", pair.about(controller, 0), 1 << line);
                CHECKS.same("in service before", pair.about(controller, 1), 1 << line);
                CHECKS.same("masked before", pair.about(controller, 2), 1 << line);
                pair.write(controller, 0, Pairs.EDGES);
                CHECKS.same("requested of " + line, pair.about(controller, 0), 0);
                CHECKS.same("in service of " + line, pair.about(controller, 1), 0);
                CHECKS.same("masked of " + line, pair.about(controller, 2), 0);
            }
        }
    }

    private static void theLowestIs7() {
        CHECKS.sentence("the lowest is 7");
        for (int controller = 0; controller <= 1; controller++) {
            for (int lowest = 0; lowest <= 7; lowest++) {
                LinePair pair = Pairs.ready();
                pair.write(controller, 0, Pairs.TURN + lowest);
                pair.write(controller, 0, Pairs.EDGES);
                CHECKS.same("the lowest behind " + lowest, pair.about(controller, 4), 7);
            }
        }
    }

    private static void byLevelsOrByEdges() {
        CHECKS.sentence("it is by levels if the word has bit 3, else by edges");
        for (int controller = 0; controller <= 1; controller++) {
            for (int before : new int[] {Pairs.EDGES, Pairs.LEVELS}) {
                for (int word : new int[] {0x10, 0x11, 0x18, 0x19, 0xF7, 0xFF}) {
                    LinePair pair = Pairs.ready(before, Pairs.PLAIN, before, Pairs.PLAIN);
                    pair.write(controller, 0, word);
                    boolean levels = word == 0x18 || word == 0x19 || word == 0xFF;
                    CHECKS.same("by levels behind " + word, pair.mode(controller, 1), levels);
                    pair.line(8 * controller + 5, true);
                    Pairs.begin(pair, controller, word, Pairs.PLAIN);
                    CHECKS.same("a line that was up, behind " + word, pair.delivers(controller),
                            levels ? 5 : LinePair.NONE);
                }
            }
        }
    }

    private static void modesAreOff() {
        CHECKS.sentence("special mask, special nesting, ends and turns at once are off");
        for (int controller = 0; controller <= 1; controller++) {
            for (int word : new int[] {0x10, 0x11, 0x18, 0x19}) {
                LinePair pair = used(controller, Pairs.EDGES);
                CHECKS.same("special mask before", pair.mode(controller, 2), true);
                CHECKS.same("special nesting before", pair.mode(controller, 3), true);
                CHECKS.same("turns at once before", pair.mode(controller, 5), true);
                pair.write(controller, 0, word);
                CHECKS.same("special mask", pair.mode(controller, 2), false);
                CHECKS.same("special nesting", pair.mode(controller, 3), false);
                CHECKS.same("turns at once", pair.mode(controller, 5), false);
            }
        }
    }

    private static void endsAtOnceIsOff() {
        CHECKS.sentence("ends [...] at once are off");
        for (int controller = 0; controller <= 1; controller++) {
            LinePair pair = Pairs.ready(Pairs.EDGES, Pairs.ENDS_AT_ONCE, Pairs.EDGES, Pairs.ENDS_AT_ONCE);
            CHECKS.same("before", pair.mode(controller, 4), true);
            pair.write(controller, 0, 0x10);
            CHECKS.same("behind", pair.mode(controller, 4), false);
            pair.write(controller, 1, 0);
            pair.write(controller, 1, 0);
            pair.line(8 * controller + 5, true);
            CHECKS.same("poll", Pairs.poll(pair, controller), 133);
            CHECKS.same("in service", pair.about(controller, 1), 32);
        }
    }

    private static void noPollWaitsAndReadIs0() {
        CHECKS.sentence("no poll waits, READ is 0");
        for (int controller = 0; controller <= 1; controller++) {
            LinePair pair = Pairs.ready();
            pair.write(controller, 0, Pairs.POLL | Pairs.READ_IN_SERVICE);
            pair.write(controller, 0, 0x18);
            CHECKS.same("a poll waits", pair.mode(controller, 6), false);
            CHECKS.same("READ", pair.about(controller, 7), 0);
            pair.write(controller, 1, 0);
            pair.write(controller, 1, 0);
            pair.line(8 * controller + 5, true);
            CHECKS.same("a reading", pair.read(controller, 0), 32);
            CHECKS.same("in service behind it", pair.about(controller, 1), 0);
        }
    }

    private static void whatABeginningLeaves() {
        CHECKS.sentence("it BEGINS (and what is not told stays: the lines, the counts, the other controller)");
        for (int controller = 0; controller <= 1; controller++) {
            LinePair pair = Pairs.ready();
            Pairs.raise(pair, 0, 7, 8, 15);
            pair.write(controller, 1, 0xFF);
            String other = Pairs.stateOf(pair, 1 - controller);
            int up = pair.about(controller, 3);
            pair.write(controller, 0, Pairs.EDGES);
            CHECKS.same("the lines up", pair.about(controller, 3), up);
            if (controller == Pairs.CHIEF) {
                CHECKS.same("the helper", Pairs.stateOf(pair, Pairs.HELPER), other);
            }
            CHECKS.same("lines that were up come up", pair.line(8 * controller, true), false);
            CHECKS.same("lines ended by words", pair.count(2), 0);
        }
        LinePair helpers = Pairs.ready();
        Pairs.raise(helpers, 0, 7);
        Pairs.poll(helpers, Pairs.CHIEF);
        String chief = Pairs.stateOf(helpers, Pairs.CHIEF);
        helpers.write(Pairs.HELPER, 0, Pairs.LEVELS);
        CHECKS.same("the chief behind a beginning of the helper", Pairs.stateOf(helpers, Pairs.CHIEF), chief);
    }

    private static void theSecondWordIsTheBase() {
        CHECKS.sentence("the second, whose five upper bits are its BASE");
        for (int controller = 0; controller <= 1; controller++) {
            for (int word = 0; word <= 255; word++) {
                LinePair pair = new LinePair();
                pair.write(controller, 0, Pairs.EDGES);
                pair.write(controller, 1, word);
                CHECKS.same("the base of " + word, pair.about(controller, 5), word - word % 8);
                CHECKS.same("the other's base", pair.about(1 - controller, 5), 0);
                CHECKS.same("masked", pair.about(controller, 2), 0);
                CHECKS.same("awaited", pair.about(controller, 6), 3);
            }
        }
    }

    private static void theThirdMeansNothing() {
        CHECKS.sentence("the third, which means nothing");
        for (int controller = 0; controller <= 1; controller++) {
            for (int first = 0x10; first <= 0x11; first++) {
                for (int word = 0; word <= 255; word++) {
                    LinePair pair = new LinePair();
                    pair.write(controller, 0, first);
                    pair.write(controller, 1, 0x48);
                    pair.write(controller, 1, word);
                    CHECKS.same("the state behind " + word, Pairs.stateOf(pair, controller), name(controller)
                            + " 0 0 0 0 7 72 " + (first == 0x10 ? "0 0 1" : "4 0 0") + "000000 delivers -1");
                }
            }
        }
    }

    private static void theFourthOnlyIfAsked() {
        CHECKS.sentence("and, if the first one has bit 0, the fourth");
        for (int controller = 0; controller <= 1; controller++) {
            for (int first = 0x10; first <= 255; first++) {
                if ((first & 16) != 0) {
                    LinePair pair = new LinePair();
                    pair.write(controller, 0, first);
                    pair.write(controller, 1, 0);
                    pair.write(controller, 1, 0);
                    boolean fourth = first % 2 == 1;
                    CHECKS.same("awaited behind the third of " + first, pair.about(controller, 6), fourth ? 4 : 0);
                    pair.write(controller, 1, 0x12);
                    CHECKS.same("masked by the next", pair.about(controller, 2), fourth ? 0 : 0x12);
                    CHECKS.same("ends at once", pair.mode(controller, 4), fourth);
                    CHECKS.same("special nesting", pair.mode(controller, 3), fourth);
                    CHECKS.same("awaited behind that", pair.about(controller, 6), 0);
                }
            }
        }
    }

    private static void theFourthSetsTwoModes() {
        CHECKS.sentence("the fourth, with bit 1 ends at once, with bit 4 special nesting");
        for (int controller = 0; controller <= 1; controller++) {
            for (int word = 0; word <= 255; word++) {
                LinePair pair = new LinePair();
                Pairs.begin(pair, controller, Pairs.EDGES, word);
                CHECKS.same("the state behind " + word, Pairs.stateOf(pair, controller), name(controller)
                        + " 0 0 0 0 7 " + base(controller) + " 0 0 100" + (word >> 4 & 1) + (word >> 1 & 1)
                        + "00 delivers -1");
            }
        }
    }

    private static void readyBehindTheLast() {
        CHECKS.sentence("It is ready behind the last of these; not so before it ever began, and from a beginning on.");
        for (int controller = 0; controller <= 1; controller++) {
            for (int first = 0x10; first <= 0x11; first++) {
                LinePair pair = new LinePair();
                CHECKS.same("ready at first", pair.mode(controller, 0), false);
                for (int word = 0; word <= 3; word++) {
                    pair.write(controller, 1, 0);
                }
                CHECKS.same("ready before it began", pair.mode(controller, 0), false);
                for (int round = 1; round <= 2; round++) {
                    pair.write(controller, 0, first);
                    for (int word = 2; word <= 3 + first % 2; word++) {
                        CHECKS.same("ready when " + word + " is awaited", pair.mode(controller, 0), false);
                        pair.write(controller, 1, 0);
                    }
                    CHECKS.same("ready behind the last", pair.mode(controller, 0), true);
                    CHECKS.same("the other is ready", pair.mode(1 - controller, 0), false);
                }
            }
        }
    }

    /** A first word, some of the words behind it, then another first word with all of its own. */
    private static void aBeginningInTheMidst() {
        CHECKS.sentence("Then words at port 1 are awaited (behind a beginning in the midst of awaited words)");
        for (int controller = 0; controller <= 1; controller++) {
            for (int ways = 0; ways <= 11; ways++) {
                int older = 0x10 + ways % 2;
                int newer = 0x10 + ways / 2 % 2;
                int written = ways / 4;
                LinePair pair = new LinePair();
                pair.write(controller, 0, older);
                for (int word = 0; word < written; word++) {
                    pair.write(controller, 1, 0x5A);
                }
                String what = " behind " + older + ", " + written + " words, " + newer;
                pair.write(controller, 0, newer);
                CHECKS.same("awaited" + what, pair.about(controller, 6), 2);
                CHECKS.same("ready" + what, pair.mode(controller, 0), false);
                CHECKS.same("masked" + what, pair.about(controller, 2), 0);
                pair.write(controller, 1, 0xA7);
                CHECKS.same("the base" + what, pair.about(controller, 5), 0xA0);
                CHECKS.same("awaited then" + what, pair.about(controller, 6), 3);
                pair.write(controller, 1, 0x12);
                CHECKS.same("awaited at last" + what, pair.about(controller, 6), newer == 0x10 ? 0 : 4);
                CHECKS.same("ready at last" + what, pair.mode(controller, 0), newer == 0x10);
                pair.write(controller, 1, 0x10);
                CHECKS.same("special nesting" + what, pair.mode(controller, 3), newer == 0x11);
                CHECKS.same("ends at once" + what, pair.mode(controller, 4), false);
                CHECKS.same("masked at last" + what, pair.about(controller, 2), newer == 0x10 ? 0x10 : 0);
            }
        }
    }

    private static void wordsAtPort0InTheMidst() {
        CHECKS.sentence("Then words at port 1 are awaited (words at port 0 are none of these)");
        for (int controller = 0; controller <= 1; controller++) {
            for (int word = 0; word <= 255; word++) {
                if ((word & 16) == 0) {
                    LinePair pair = new LinePair();
                    pair.write(controller, 0, Pairs.EDGES);
                    for (int awaited = 2; awaited <= 4; awaited++) {
                        pair.write(controller, 0, word);
                        CHECKS.same("awaited behind " + word, pair.about(controller, 6), awaited);
                        CHECKS.same("ready behind " + word, pair.mode(controller, 0), false);
                        pair.write(controller, 1, 0);
                    }
                    CHECKS.same("ready at last", pair.mode(controller, 0), true);
                }
            }
        }
    }

    private static void eachAwaitsForItself() {
        CHECKS.sentence("Then words at port 1 are awaited (by this controller)");
        LinePair pair = new LinePair();
        pair.write(Pairs.CHIEF, 0, 0x11);
        pair.write(Pairs.HELPER, 0, 0x10);
        pair.write(Pairs.HELPER, 1, 0x08);
        pair.write(Pairs.CHIEF, 1, 0xF8);
        pair.write(Pairs.HELPER, 1, 0);
        CHECKS.same("the chief's awaited", pair.about(0, 6), 3);
        CHECKS.same("the helper's awaited", pair.about(1, 6), 0);
        CHECKS.same("the chief's base", pair.about(0, 5), 0xF8);
        CHECKS.same("the helper's base", pair.about(1, 5), 0x08);
        pair.write(Pairs.HELPER, 1, 0x12);
        CHECKS.same("the helper's masked", pair.about(1, 2), 0x12);
        pair.write(Pairs.CHIEF, 1, 0);
        CHECKS.same("the chief's awaited at last", pair.about(0, 6), 4);
        CHECKS.same("the chief is ready", pair.mode(0, 0), false);
        CHECKS.same("the helper is ready", pair.mode(1, 0), true);
    }
}
