import java.util.List;
import java.util.function.Supplier;

/** Terms: EXCEPTIONS, for each call that can be refused, in each of several states. */
public final class ExceptionsTest {
    private static final int LEAST = Integer.MIN_VALUE;
    private static final int MOST = Integer.MAX_VALUE;
    // Beside the bounds and the ends, numbers that a cut to 8 or 16 bits, or a shift's, would make right.
    private static final int[] NO_TWO =
            {-1, 2, 3, 256, 257, -256, -255, 65_536, 65_537, LEAST, LEAST + 1, MOST, MOST - 1};
    private static final int[] NO_LINES =
            {-1, 2, 16, 17, 18, 32, 37, 256, 261, -251, 65_541, LEAST, LEAST + 5, MOST, MOST - 2};
    private static final int[] NO_WORDS =
            {-1, 256, 257, 273, 288, -224, -239, -256, 65_536, 65_553, LEAST, LEAST + 17, MOST, MOST - 238};
    private static final Checks CHECKS = new Checks();

    private ExceptionsTest() {
    }

    public static void main(String[] args) {
        lines();
        controllersAndPortsOfWrite();
        words();
        controllersAndPortsOfRead();
        controllersOfDelivers();
        controllersOfAbout();
        numbersOfAbout();
        controllersOfMode();
        numbersOfMode();
        numbersOfCount();
        severalWrong();
        rightNumbersAreNotRefused();
        CHECKS.end();
    }

    private static List<Supplier<LinePair>> states() {
        return List.of(LinePair::new, ExceptionsTest::busy, ExceptionsTest::atOnce, () -> awaiting(2),
                () -> awaiting(3), () -> awaiting(4));
    }

    /** Lines requested and in service at both, masks, turned priorities, and polls that wait with a line for each. */
    private static LinePair busy() {
        LinePair pair = Pairs.ready(Pairs.EDGES, Pairs.SPECIAL_NESTING, Pairs.LEVELS, Pairs.PLAIN);
        Pairs.serve(pair, Pairs.CHIEF, 6);
        Pairs.serve(pair, Pairs.HELPER, 7);
        Pairs.raise(pair, 3, 5, 7, 9, 12);
        for (int controller = 0; controller <= 1; controller++) {
            pair.write(controller, 1, 0x21);
            pair.write(controller, 0, 0x6F);
        }
        pair.write(Pairs.CHIEF, 0, Pairs.TURN + 4);
        pair.take();
        return pair;
    }

    private static LinePair atOnce() {
        LinePair pair = Pairs.ready(Pairs.LEVELS, Pairs.ENDS_AT_ONCE, Pairs.LEVELS, Pairs.ENDS_AT_ONCE);
        for (int controller = 0; controller <= 1; controller++) {
            pair.write(controller, 0, Pairs.TURNS_AT_ONCE_ON);
            pair.write(controller, 0, Pairs.POLL);
        }
        Pairs.raise(pair, 4, 10, 13);
        pair.take();
        return pair;
    }

    /** Both await this word, the fourth only of the chief. */
    private static LinePair awaiting(int word) {
        LinePair pair = busy();
        pair.write(Pairs.CHIEF, 0, 0x19);
        pair.write(Pairs.HELPER, 0, 0x10);
        for (int written = 2; written < word; written++) {
            pair.write(Pairs.CHIEF, 1, 0x40);
            pair.write(Pairs.HELPER, 1, 0x50);
        }
        return pair;
    }

    private static void lines() {
        CHECKS.sentence("NoSuchElementException: it is not 0 .. 15, or 2. Such a call changes nothing.");
        for (Supplier<LinePair> state : states()) {
            for (int k : NO_LINES) {
                CHECKS.noSuchElement("line(" + k + ", true)", state, pair -> pair.line(k, true));
                CHECKS.noSuchElement("line(" + k + ", false)", state, pair -> pair.line(k, false));
            }
        }
    }

    private static void controllersAndPortsOfWrite() {
        CHECKS.sentence("write [...] NoSuchElementException: controller or port. Such a call changes nothing.");
        for (Supplier<LinePair> state : states()) {
            for (int wrong : NO_TWO) {
                for (int right = 0; right <= 1; right++) {
                    int other = right;
                    for (int word : new int[] {0x00, 0x11, 0x20, 0x6F, 0xC5, 0xFF}) {
                        CHECKS.noSuchElement("write(" + wrong + ", " + other + ", " + word + ")", state,
                                pair -> pair.write(wrong, other, word));
                        CHECKS.noSuchElement("write(" + other + ", " + wrong + ", " + word + ")", state,
                                pair -> pair.write(other, wrong, word));
                    }
                }
            }
        }
    }

    private static void words() {
        CHECKS.sentence("write [...] IllegalArgumentException: it is no word. Such a call changes nothing.");
        for (Supplier<LinePair> state : states()) {
            for (int wrong : NO_WORDS) {
                for (int ways = 0; ways <= 3; ways++) {
                    int controller = ways / 2;
                    int port = ways % 2;
                    CHECKS.illegalArgument("write(" + controller + ", " + port + ", " + wrong + ")", state,
                            pair -> pair.write(controller, port, wrong));
                }
            }
        }
    }

    private static void controllersAndPortsOfRead() {
        CHECKS.sentence("read [...] NoSuchElementException. Such a call changes nothing.");
        for (Supplier<LinePair> state : states()) {
            for (int wrong : NO_TWO) {
                for (int right = 0; right <= 1; right++) {
                    int other = right;
                    CHECKS.noSuchElement("read(" + wrong + ", " + other + ")", state, pair -> pair.read(wrong, other));
                    CHECKS.noSuchElement("read(" + other + ", " + wrong + ")", state, pair -> pair.read(other, wrong));
                }
            }
        }
    }

    private static void controllersOfDelivers() {
        CHECKS.sentence("delivers [...] NoSuchElementException. Such a call changes nothing.");
        for (Supplier<LinePair> state : states()) {
            for (int wrong : NO_TWO) {
                CHECKS.noSuchElement("delivers(" + wrong + ")", state, pair -> pair.delivers(wrong));
            }
        }
    }

    private static void controllersOfAbout() {
        CHECKS.sentence("about [...] NoSuchElementException. Such a call changes nothing.");
        for (Supplier<LinePair> state : states()) {
            for (int wrong : NO_TWO) {
                for (int what = 0; what <= 7; what++) {
                    int right = what;
                    CHECKS.noSuchElement("about(" + wrong + ", " + what + ")", state, pair -> pair.about(wrong, right));
                }
            }
        }
    }

    private static void numbersOfAbout() {
        CHECKS.sentence("about [...] IllegalArgumentException: none of these. Such a call changes nothing.");
        for (Supplier<LinePair> state : states()) {
            for (int wrong : new int[] {-1, 8, 9, 15, 16, 256, 263, -256, 65_536, LEAST, LEAST + 7, MOST, MOST - 7}) {
                CHECKS.illegalArgument("about(0, " + wrong + ")", state, pair -> pair.about(0, wrong));
                CHECKS.illegalArgument("about(1, " + wrong + ")", state, pair -> pair.about(1, wrong));
            }
        }
    }

    private static void controllersOfMode() {
        CHECKS.sentence("mode [...] NoSuchElementException. Such a call changes nothing.");
        for (Supplier<LinePair> state : states()) {
            for (int wrong : NO_TWO) {
                for (int which = 0; which <= 6; which++) {
                    int right = which;
                    CHECKS.noSuchElement("mode(" + wrong + ", " + which + ")", state, pair -> pair.mode(wrong, right));
                }
            }
        }
    }

    private static void numbersOfMode() {
        CHECKS.sentence("mode [...] IllegalArgumentException: none of these. Such a call changes nothing.");
        for (Supplier<LinePair> state : states()) {
            for (int wrong : new int[] {-1, 7, 8, 14, 16, 256, 262, -256, 65_536, LEAST, LEAST + 6, MOST, MOST - 7}) {
                CHECKS.illegalArgument("mode(0, " + wrong + ")", state, pair -> pair.mode(0, wrong));
                CHECKS.illegalArgument("mode(1, " + wrong + ")", state, pair -> pair.mode(1, wrong));
            }
        }
    }

    private static void numbersOfCount() {
        CHECKS.sentence("count [...] IllegalArgumentException: none of these. Such a call changes nothing.");
        for (Supplier<LinePair> state : states()) {
            for (int wrong : new int[] {-1, 3, 4, 256, 258, -256, 65_536, LEAST, LEAST + 2, MOST, MOST - 3}) {
                CHECKS.illegalArgument("count(" + wrong + ")", state, pair -> pair.count(wrong));
            }
        }
    }

    /** The document names NoSuchElementException first wherever a call can throw both. */
    private static void severalWrong() {
        CHECKS.sentence("NoSuchElementException: there is no such controller, port or line. "
                + "IllegalArgumentException as told.");
        for (int wrong : NO_TWO) {
            CHECKS.noSuchElement("write(" + wrong + ", 0, 256)", ExceptionsTest::busy,
                    pair -> pair.write(wrong, 0, 256));
            CHECKS.noSuchElement("write(1, " + wrong + ", -1)", ExceptionsTest::busy, pair -> pair.write(1, wrong, -1));
            CHECKS.noSuchElement("write(-1, " + wrong + ", 0)", ExceptionsTest::busy, pair -> pair.write(-1, wrong, 0));
            CHECKS.noSuchElement("read(2, " + wrong + ")", ExceptionsTest::busy, pair -> pair.read(2, wrong));
            CHECKS.noSuchElement("about(" + wrong + ", 8)", ExceptionsTest::busy, pair -> pair.about(wrong, 8));
            CHECKS.noSuchElement("mode(" + wrong + ", -1)", ExceptionsTest::busy, pair -> pair.mode(wrong, -1));
        }
    }

    /** The numbers just inside each bound. */
    private static void rightNumbersAreNotRefused() {
        CHECKS.sentence("NoSuchElementException: there is no such controller, port or line. (none where there is one)");
        LinePair pair = new LinePair();
        for (int k : new int[] {0, 1, 3, 7, 8, 10, 15}) {
            CHECKS.same("line(" + k + ", true)", pair.line(k, true), true);
        }
        for (int controller = 0; controller <= 1; controller++) {
            CHECKS.same("read at port 0", pair.read(controller, 0), controller == 0 ? 0x8B : 0x85);
            CHECKS.same("read at port 1", pair.read(controller, 1), 0);
            CHECKS.same("delivers", pair.delivers(controller), LinePair.NONE);
            CHECKS.same("about 0", pair.about(controller, 0), controller == 0 ? 0x8B : 0x85);
            CHECKS.same("about 7", pair.about(controller, 7), 0);
            CHECKS.same("mode 0", pair.mode(controller, 0), false);
            CHECKS.same("mode 6", pair.mode(controller, 6), false);
            for (int port = 0; port <= 1; port++) {
                CHECKS.same("write of 0", pair.write(controller, port, 0), false);
                CHECKS.same("write of 255", pair.write(controller, port, 255), false);
            }
        }
        CHECKS.same("count 0", pair.count(0), 0);
        CHECKS.same("count 2", pair.count(2), 0);
    }
}
