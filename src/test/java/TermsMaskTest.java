/** Terms: words, and those at port 1 that are not awaited. */
public final class TermsMaskTest {
    private static final Checks CHECKS = new Checks();

    private TermsMaskTest() {
    }

    public static void main(String[] args) {
        wordsAre0To255();
        eachBitTellsOfItsLine();
        alsoWhenItNeverBegan();
        aBeginningForgetsEarlierMasks();
        eachWordTellsOfAllLines();
        masksTouchNothingElse();
        CHECKS.end();
    }

    private static void wordsAre0To255() {
        CHECKS.sentence("WORDS are 0 .. 255, written to a controller at PORT 0 or 1.");
        for (int controller = 0; controller <= 1; controller++) {
            for (int port = 0; port <= 1; port++) {
                for (int word = 0; word <= 255; word++) {
                    CHECKS.same("write(" + controller + ", " + port + ", " + word + ")",
                            new LinePair().write(controller, port, word), false);
                }
                int at = controller;
                int through = port;
                for (int wrong : new int[] {-1, 256}) {
                    CHECKS.illegalArgument("write(" + at + ", " + through + ", " + wrong + ")", Pairs::ready,
                            pair -> pair.write(at, through, wrong));
                }
            }
        }
    }

    private static void eachBitTellsOfItsLine() {
        CHECKS.sentence("bit k tells whether line k is masked");
        for (int controller = 0; controller <= 1; controller++) {
            for (int word = 0; word <= 255; word++) {
                LinePair pair = Pairs.ready();
                pair.write(controller, 1, word);
                CHECKS.same("masked by " + word, pair.about(controller, 2), word);
                CHECKS.same("the other's masked by " + word, pair.about(1 - controller, 2), 0);
            }
            for (int line = 0; line <= 7; line++) {
                LinePair pair = Pairs.ready();
                Pairs.move(pair, controller, line, true);
                pair.write(controller, 1, 1 << line);
                CHECKS.same(line + " when masked", pair.delivers(controller), LinePair.NONE);
                pair.write(controller, 1, 255 - (1 << line));
                CHECKS.same(line + " when the others are", pair.delivers(controller), line);
            }
        }
    }

    private static void alsoWhenItNeverBegan() {
        CHECKS.sentence("PORT 1 else (also when it never began)");
        for (int controller = 0; controller <= 1; controller++) {
            for (int word = 0; word <= 255; word++) {
                LinePair pair = new LinePair();
                pair.write(controller, 1, word);
                CHECKS.same("masked by " + word, pair.about(controller, 2), word);
                CHECKS.same("awaited behind " + word, pair.about(controller, 6), 0);
                pair.write(controller, 1, 0);
                CHECKS.same("all behind 0", Pairs.stateOf(pair), Pairs.stateOf(new LinePair()));
            }
        }
    }

    private static void aBeginningForgetsEarlierMasks() {
        CHECKS.sentence("it BEGINS: nothing is masked (of what was before it began)");
        for (int controller = 0; controller <= 1; controller++) {
            LinePair pair = new LinePair();
            pair.write(controller, 1, 255);
            Pairs.begin(pair, controller, Pairs.EDGES, Pairs.PLAIN);
            CHECKS.same("masked", pair.about(controller, 2), 0);
        }
    }

    private static void eachWordTellsOfAllLines() {
        CHECKS.sentence("bit k tells whether line k is masked (of every k, whatever was)");
        for (int controller = 0; controller <= 1; controller++) {
            int[] words = {0xFF, 0x00, 0x0F, 0xF0, 0x55, 0xAA, 0x80, 0x01};
            LinePair pair = Pairs.ready();
            for (int word : words) {
                pair.write(controller, 1, word);
                CHECKS.same("masked by " + word, pair.about(controller, 2), word);
            }
        }
    }

    private static void masksTouchNothingElse() {
        CHECKS.sentence("bit k tells whether line k is masked (and nothing else)");
        for (int controller = 0; controller <= 1; controller++) {
            LinePair pair = Pairs.ready();
            Pairs.serve(pair, controller, 5);
            Pairs.move(pair, controller, 3, true);
            pair.write(controller, 0, Pairs.POLL);
            String before = Pairs.stateOf(pair);
            for (int word : new int[] {0xFF, 0x12, 0x00}) {
                pair.write(controller, 1, word);
            }
            CHECKS.same("the state when nothing is masked again", Pairs.stateOf(pair), before);
        }
    }
}
