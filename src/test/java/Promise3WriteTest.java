/** Promise 3: write, with the words and ports. */
public final class Promise3WriteTest {
    private static final Checks CHECKS = new Checks();

    private Promise3WriteTest() {
    }

    public static void main(String[] args) {
        answersWhetherTheChiefDelivers();
        answersWhetherTheChiefDeliversBehindEveryWord();
        wordsAwaited();
        aBeginningForgets();
        aBeginningAmongAwaitedWords();
        wordsAtPort0WhileWordsAreAwaited();
        beginningByLevelsKeepsRequests();
        aBeginningOfTheHelperLowersLine2();
        aBeginningOfTheChiefForgetsTheEdgeOfLine2();
        fourthWord();
        masks();
        ordersDoNothingElse();
        ends();
        endsWithSpecialMask();
        turns();
        endsAndTurns();
        turnsAtOnce();
        choices();
        noSuchPlaces();
        noWords();
        CHECKS.end();
    }

    private static void answersWhetherTheChiefDelivers() {
        CHECKS.sentence("A word is written: whether the chief delivers then.");
        LinePair pair = Pairs.ready();
        CHECKS.same("nothing to deliver", pair.write(Pairs.CHIEF, 0, Pairs.NOTHING), false);
        Pairs.raise(pair, 12);
        CHECKS.same("written to the chief", pair.write(Pairs.CHIEF, 0, Pairs.NOTHING), true);
        CHECKS.same("written to the helper", pair.write(Pairs.HELPER, 0, Pairs.NOTHING), true);
        CHECKS.same("the helper's line masked", pair.write(Pairs.HELPER, 1, 0x10), false);
        CHECKS.same("and no more", pair.write(Pairs.HELPER, 1, 0x20), true);
        CHECKS.same("line 2 masked", pair.write(Pairs.CHIEF, 1, 4), false);
    }

    /** In two states: the chief delivers a line of its own, or is blocked while the helper delivers one. */
    private static void answersWhetherTheChiefDeliversBehindEveryWord() {
        CHECKS.sentence("whether the chief delivers then (behind the word, not before it)");
        int[] answers = {0, 0};
        for (int word = 0; word <= 255; word++) {
            for (int ways = 0; ways <= 7; ways++) {
                LinePair pair = Pairs.byLevels();
                Pairs.serve(pair, Pairs.CHIEF, 4);
                Pairs.serve(pair, Pairs.HELPER, 4);
                pair.line(8 * (ways / 4) + 6, true);
                boolean delivers = pair.write(ways % 2, ways / 2 % 2, word);
                CHECKS.same("write(" + ways % 2 + ", " + ways / 2 % 2 + ", " + word + ")",
                        delivers, pair.delivers(0) != LinePair.NONE);
                answers[delivers ? 1 : 0]++;
            }
        }
        CHECKS.same("both answers came", answers[0] > 0 && answers[1] > 0, true);
    }

    private static void wordsAwaited() {
        CHECKS.sentence("Then words at port 1 are awaited");
        for (int controller = 0; controller <= 1; controller++) {
            for (int first = 0x10; first <= 0x11; first++) {
                wordsAwaited(controller, first);
            }
        }
    }

    private static void wordsAwaited(int controller, int first) {
        LinePair pair = new LinePair();
        pair.write(controller, 0, first);
        CHECKS.same("awaited behind the first", pair.about(controller, 6), 2);
        pair.write(controller, 1, 0xAF);
        CHECKS.same("base", pair.about(controller, 5), 0xA8);
        CHECKS.same("awaited behind the second", pair.about(controller, 6), 3);
        CHECKS.same("ready behind the second", pair.mode(controller, 0), false);
        pair.write(controller, 1, 0xFF);
        boolean fourth = first == 0x11;
        CHECKS.same("awaited behind the third", pair.about(controller, 6), fourth ? 4 : 0);
        CHECKS.same("ready behind the third", pair.mode(controller, 0), !fourth);
        if (fourth) {
            pair.write(controller, 1, 0xED);
            CHECKS.same("awaited behind the fourth", pair.about(controller, 6), 0);
            CHECKS.same("ready behind the fourth", pair.mode(controller, 0), true);
        }
        CHECKS.same("no awaited word masks", pair.about(controller, 2), 0);
        CHECKS.same("no awaited word but the fourth sets a mode",
                pair.mode(controller, 3) || pair.mode(controller, 4), false);
        CHECKS.same("base behind all", pair.about(controller, 5), 0xA8);
        CHECKS.same("the other's base", pair.about(1 - controller, 5), 0);
        pair.write(controller, 1, 0x55);
        CHECKS.same("the next word masks", pair.about(controller, 2), 0x55);
    }

    private static void aBeginningForgets() {
        CHECKS.sentence("PORT 0 with bit 4: it BEGINS");
        LinePair pair = Pairs.ready(Pairs.LEVELS, Pairs.SPECIAL_NESTING, Pairs.EDGES, Pairs.PLAIN);
        Pairs.raise(pair, 1, 4);
        pair.take();
        pair.write(Pairs.CHIEF, 1, 0x81);
        pair.write(Pairs.CHIEF, 0, Pairs.TURN + 3);
        pair.write(Pairs.CHIEF, 0, Pairs.TURNS_AT_ONCE_ON);
        pair.write(Pairs.CHIEF, 0, Pairs.SPECIAL_MASK_ON | Pairs.POLL | Pairs.READ_IN_SERVICE);
        CHECKS.same("before", Pairs.stateOf(pair).split(";")[0],
                "chief 18 2 129 18 3 32 0 1 1111011 delivers 4");
        pair.write(Pairs.CHIEF, 0, 0x10);
        CHECKS.same("behind", Pairs.stateOf(pair).split(";")[0],
                "chief 0 0 0 18 7 32 2 0 0000000 delivers -1");
        pair.write(Pairs.CHIEF, 0, 0xFE);
        CHECKS.same("other bits of the first word mean nothing", Pairs.stateOf(pair).split(";")[0],
                "chief 18 0 0 18 7 32 2 0 0100000 delivers -1");
        CHECKS.same("a beginning ends no line by a word", pair.count(2), 0);
    }

    private static void aBeginningAmongAwaitedWords() {
        CHECKS.sentence("Then words at port 1 are awaited (of the newer beginning)");
        LinePair pair = new LinePair();
        pair.write(Pairs.CHIEF, 0, 0x11);
        pair.write(Pairs.CHIEF, 1, 0x40);
        pair.write(Pairs.CHIEF, 0, 0x10);
        CHECKS.same("awaited again", pair.about(0, 6), 2);
        CHECKS.same("base until the second word", pair.about(0, 5), 0x40);
        pair.write(Pairs.CHIEF, 1, 0x50);
        pair.write(Pairs.CHIEF, 1, 0);
        CHECKS.same("the newer first word tells of the fourth", pair.mode(0, 0), true);
        CHECKS.same("the newer base", pair.about(0, 5), 0x50);
    }

    private static void wordsAtPort0WhileWordsAreAwaited() {
        CHECKS.sentence("PORT 0 without bit 4 (while words are awaited)");
        LinePair pair = new LinePair();
        pair.write(Pairs.HELPER, 0, 0x11);
        pair.write(Pairs.HELPER, 0, Pairs.TURN + 5);
        pair.write(Pairs.HELPER, 0, Pairs.TURNS_AT_ONCE_ON);
        pair.write(Pairs.HELPER, 0, Pairs.SPECIAL_MASK_ON | Pairs.POLL | Pairs.READ_IN_SERVICE);
        CHECKS.same("awaited", pair.about(1, 6), 2);
        CHECKS.same("lowest", pair.about(1, 4), 5);
        CHECKS.same("turns at once", pair.mode(1, 5), true);
        CHECKS.same("special mask", pair.mode(1, 2), true);
        CHECKS.same("poll waits", pair.mode(1, 6), true);
        CHECKS.same("READ", pair.about(1, 7), 1);
    }

    private static void beginningByLevelsKeepsRequests() {
        CHECKS.sentence("it is by levels if the word has bit 3, else by edges");
        LinePair pair = new LinePair();
        Pairs.raise(pair, 6);
        Pairs.begin(pair, Pairs.CHIEF, Pairs.EDGES, Pairs.PLAIN);
        CHECKS.same("by edges", pair.delivers(0), LinePair.NONE);
        Pairs.begin(pair, Pairs.CHIEF, Pairs.LEVELS, Pairs.PLAIN);
        CHECKS.same("by levels", pair.delivers(0), 6);
        Pairs.begin(pair, Pairs.CHIEF, Pairs.EDGES, Pairs.PLAIN);
        CHECKS.same("by edges again", pair.about(0, 0), 0);
    }

    private static void aBeginningOfTheHelperLowersLine2() {
        CHECKS.sentence("it is up while the helper DELIVERS (not from a beginning on)");
        LinePair pair = Pairs.ready(Pairs.EDGES, Pairs.PLAIN, 0x18, 0);
        Pairs.raise(pair, 8);
        CHECKS.same("before", pair.delivers(0), 2);
        CHECKS.same("a beginning", pair.write(Pairs.HELPER, 0, 0x18), false);
        CHECKS.same("line 2", pair.about(0, 3) + pair.about(0, 0), 0);
        CHECKS.same("second word", pair.write(Pairs.HELPER, 1, 0), false);
        CHECKS.same("third word", pair.write(Pairs.HELPER, 1, 0), true);
        CHECKS.same("line 2 behind the last word", pair.about(0, 0), 4);
    }

    private static void aBeginningOfTheChiefForgetsTheEdgeOfLine2() {
        CHECKS.sentence("nothing is [...] requested by an edge (line 2 neither)");
        LinePair pair = Pairs.ready();
        Pairs.raise(pair, 9);
        Pairs.begin(pair, Pairs.CHIEF, Pairs.EDGES, Pairs.PLAIN);
        CHECKS.same("line 2 is up", pair.about(0, 3), 4);
        CHECKS.same("line 2 is not requested", pair.delivers(0), LinePair.NONE);
        pair.write(Pairs.HELPER, 1, 2);
        CHECKS.same("line 2 came up anew", pair.write(Pairs.HELPER, 1, 0), true);
    }

    private static void fourthWord() {
        CHECKS.sentence("the fourth, with bit 1 ends at once, with bit 4 special nesting");
        for (int controller = 0; controller <= 1; controller++) {
            for (int word = 0; word <= 255; word++) {
                LinePair pair = new LinePair();
                Pairs.begin(pair, controller, Pairs.EDGES, word);
                CHECKS.same("special nesting by " + word, pair.mode(controller, 3), (word & 16) != 0);
                CHECKS.same("ends at once by " + word, pair.mode(controller, 4), (word & 2) != 0);
                CHECKS.same("turns at once by " + word, pair.mode(controller, 5), false);
            }
        }
    }

    private static void masks() {
        CHECKS.sentence("PORT 1 else (also when it never began): bit k tells whether line k is masked.");
        LinePair never = new LinePair();
        never.write(Pairs.HELPER, 1, 0xA5);
        CHECKS.same("masks of one that never began", never.about(1, 2), 0xA5);
        LinePair pair = Pairs.ready();
        Pairs.raise(pair, 1, 3);
        pair.write(Pairs.CHIEF, 1, 2);
        CHECKS.same("a masked line is not delivered", pair.delivers(0), 3);
        CHECKS.same("but requested", pair.about(0, 0), 10);
        pair.write(Pairs.CHIEF, 1, 8);
        CHECKS.same("each word tells of all lines", pair.delivers(0), 1);
    }

    /** Lines 5, 4 and 1 of the chief are in service, taken in this order. */
    private static LinePair threeInService() {
        LinePair pair = Pairs.ready();
        for (int line : new int[] {5, 4, 1}) {
            Pairs.raise(pair, line);
            pair.take();
        }
        return pair;
    }

    /** Each of the eight orders, naming line 5, which is in service but not the highest there. */
    private static void ordersDoNothingElse() {
        CHECKS.sentence("PORT 0 without bits 4 and 3: by its three upper bits");
        int[] inService = {0x32, 0x30, 0x32, 0x12, 0x32, 0x30, 0x32, 0x12};
        int[] lowest = {7, 7, 7, 7, 7, 1, 5, 5};
        for (int order = 0; order <= 7; order++) {
            for (int turning = 0; turning <= 1; turning++) {
                LinePair pair = threeInService();
                pair.write(Pairs.CHIEF, 0, turning == 1 ? Pairs.TURNS_AT_ONCE_ON : Pairs.TURNS_AT_ONCE_OFF);
                pair.write(Pairs.CHIEF, 0, order << 5 | 5);
                CHECKS.same("in service behind " + order, pair.about(0, 1), inService[order]);
                CHECKS.same("lowest behind " + order, pair.about(0, 4), lowest[order]);
                CHECKS.same("turns at once behind " + order, pair.mode(0, 5),
                        order == 4 || order != 0 && turning == 1);
                CHECKS.same("ended by " + order, pair.count(2), order % 2);
            }
        }
    }

    private static void ends() {
        CHECKS.sentence("1 ENDS the line in service with the highest priority [...], "
                + "3 ends line l (if it is in service)");
        LinePair pair = threeInService();
        pair.write(Pairs.CHIEF, 0, Pairs.END_HIGHEST + 4);
        CHECKS.same("the highest ended", pair.about(0, 1), 0x30);
        pair.write(Pairs.CHIEF, 0, Pairs.END_LINE + 5);
        CHECKS.same("line 5 ended", pair.about(0, 1), 0x10);
        pair.write(Pairs.CHIEF, 0, Pairs.END_LINE + 6);
        CHECKS.same("line 6 is not in service", pair.about(0, 1), 0x10);
        pair.write(Pairs.CHIEF, 0, Pairs.NOTHING + 4);
        CHECKS.same("2 does nothing", pair.about(0, 1), 0x10);
        CHECKS.same("the lowest is as before", pair.about(0, 4), 7);
        LinePair turned = threeInService();
        turned.write(Pairs.CHIEF, 0, Pairs.TURN + 3);
        turned.write(Pairs.CHIEF, 0, Pairs.END_HIGHEST);
        CHECKS.same("the highest of turned priorities ended", turned.about(0, 1), 0x22);
    }

    private static void endsWithSpecialMask() {
        CHECKS.sentence("(with special mask: of those that are not masked)");
        LinePair pair = threeInService();
        pair.write(Pairs.CHIEF, 1, 0x02);
        pair.write(Pairs.CHIEF, 0, Pairs.SPECIAL_MASK_ON);
        pair.write(Pairs.CHIEF, 0, Pairs.END_HIGHEST);
        CHECKS.same("the highest that is not masked ended", pair.about(0, 1), 0x22);
        pair.write(Pairs.CHIEF, 0, Pairs.END_HIGHEST_AND_TURN);
        CHECKS.same("the next ended", pair.about(0, 1), 0x02);
        CHECKS.same("and is the lowest", pair.about(0, 4), 5);
        pair.write(Pairs.CHIEF, 0, Pairs.END_HIGHEST);
        pair.write(Pairs.CHIEF, 0, Pairs.END_HIGHEST_AND_TURN);
        CHECKS.same("a masked one stays", pair.about(0, 1), 0x02);
        CHECKS.same("and does not turn", pair.about(0, 4), 5);
        pair.write(Pairs.CHIEF, 0, Pairs.END_LINE + 1);
        CHECKS.same("but ends by its number", pair.about(0, 1), 0);
        LinePair plain = threeInService();
        plain.write(Pairs.CHIEF, 1, 0x02);
        plain.write(Pairs.CHIEF, 0, Pairs.END_HIGHEST);
        CHECKS.same("without special mask a masked one ends", plain.about(0, 1), 0x30);
    }

    private static void turns() {
        CHECKS.sentence("6 l becomes the lowest");
        for (int lowest = 0; lowest <= 7; lowest++) {
            LinePair pair = Pairs.ready();
            pair.write(Pairs.HELPER, 0, Pairs.TURN + lowest);
            CHECKS.same("lowest", pair.about(1, 4), lowest);
            CHECKS.same("the chief's lowest", pair.about(0, 4), 7);
            Pairs.raise(pair, 8, 9, 10, 11, 12, 13, 14, 15);
            for (int behind = 1; behind <= 8; behind++) {
                int line = (lowest + behind) % 8;
                CHECKS.same("lowest " + lowest + " delivers", pair.delivers(1), line);
                Pairs.lower(pair, 8 + line);
            }
        }
    }

    private static void endsAndTurns() {
        CHECKS.sentence("5, 7 likewise, and the one that 5 ended, or l, becomes the lowest (5: if there is one)");
        LinePair pair = threeInService();
        pair.write(Pairs.CHIEF, 0, Pairs.END_HIGHEST_AND_TURN + 6);
        CHECKS.same("5 ended", pair.about(0, 1), 0x30);
        CHECKS.same("5 turned", pair.about(0, 4), 1);
        pair.write(Pairs.CHIEF, 0, Pairs.END_LINE_AND_TURN + 5);
        CHECKS.same("7 ended", pair.about(0, 1), 0x10);
        CHECKS.same("7 turned", pair.about(0, 4), 5);
        pair.write(Pairs.CHIEF, 0, Pairs.END_LINE_AND_TURN + 2);
        CHECKS.same("7 ended nothing", pair.about(0, 1), 0x10);
        CHECKS.same("7 turned all the same", pair.about(0, 4), 2);
        pair.write(Pairs.CHIEF, 0, Pairs.END_HIGHEST);
        pair.write(Pairs.CHIEF, 0, Pairs.END_HIGHEST_AND_TURN + 6);
        CHECKS.same("5 turns nothing when it ends nothing", pair.about(0, 4), 2);
        CHECKS.same("turns at once was not touched", pair.mode(0, 5), false);
    }

    private static void turnsAtOnce() {
        CHECKS.sentence("4, 0 turns at once is on, off");
        LinePair pair = Pairs.ready();
        pair.write(Pairs.HELPER, 0, Pairs.TURNS_AT_ONCE_ON + 3);
        CHECKS.same("on", pair.mode(1, 5), true);
        CHECKS.same("on for one only", pair.mode(0, 5), false);
        CHECKS.same("lowest", pair.about(1, 4), 7);
        pair.write(Pairs.HELPER, 0, Pairs.TURNS_AT_ONCE_OFF + 3);
        CHECKS.same("off", pair.mode(1, 5), false);
    }

    /** Every word without bit 4 and with bit 3, from both states of each thing that it can set. */
    private static void choices() {
        CHECKS.sentence("PORT 0 without bit 4, with bit 3");
        for (int word = 0; word <= 255; word++) {
            if ((word & 0x18) == 0x08) {
                choice(word, 0, Pairs.SPECIAL_MASK_OFF | Pairs.READ_REQUESTED);
                choice(word, 1, Pairs.SPECIAL_MASK_ON | Pairs.READ_IN_SERVICE | Pairs.POLL);
            }
        }
    }

    private static void choice(int word, int before, int earlierWord) {
        LinePair pair = Pairs.ready();
        pair.write(Pairs.CHIEF, 0, earlierWord);
        pair.write(Pairs.CHIEF, 0, word);
        int masking = word >> 5 & 3;
        int reading = word & 3;
        CHECKS.same("special mask by " + word, pair.mode(0, 2), masking < 2 ? before == 1 : masking == 3);
        CHECKS.same("poll by " + word, pair.mode(0, 6), before == 1 || (word & 4) != 0);
        CHECKS.same("READ by " + word, pair.about(0, 7), reading < 2 ? before : reading - 2);
        CHECKS.same("the helper's by " + word, pair.mode(1, 2) || pair.mode(1, 6) || pair.about(1, 7) == 1, false);
        CHECKS.same("lowest, awaited by " + word, pair.about(0, 4) * 10 + pair.about(0, 6), 70);
    }

    private static void noSuchPlaces() {
        CHECKS.sentence("NoSuchElementException: controller or port.");
        for (int wrong : new int[] {-1, 2, Integer.MIN_VALUE, Integer.MAX_VALUE}) {
            CHECKS.noSuchElement("write(" + wrong + ", 0, 17)", Promise3WriteTest::threeInService,
                    pair -> pair.write(wrong, 0, 17));
            CHECKS.noSuchElement("write(0, " + wrong + ", 17)", Promise3WriteTest::threeInService,
                    pair -> pair.write(0, wrong, 17));
        }
        CHECKS.noSuchElement("write(2, 0, 256)", Promise3WriteTest::threeInService, pair -> pair.write(2, 0, 256));
    }

    private static void noWords() {
        CHECKS.sentence("IllegalArgumentException: it is no word.");
        for (int wrong : new int[] {-1, 256, 256 + 17, Integer.MIN_VALUE, Integer.MAX_VALUE}) {
            CHECKS.illegalArgument("write(0, 0, " + wrong + ")", Promise3WriteTest::threeInService,
                    pair -> pair.write(0, 0, wrong));
        }
        CHECKS.illegalArgument("write(1, 1, 256)", Promise3WriteTest::threeInService, pair -> pair.write(1, 1, 256));
        LinePair pair = threeInService();
        pair.write(Pairs.CHIEF, 1, 255);
        CHECKS.same("255 is a word", pair.about(0, 2), 255);
        pair.write(Pairs.CHIEF, 1, 0);
        CHECKS.same("0 is a word", pair.about(0, 2), 0);
    }
}
