/** Promise 7: about. */
public final class Promise7AboutTest {
    private static final Checks CHECKS = new Checks();

    private Promise7AboutTest() {
    }

    public static void main(String[] args) {
        ofEachController();
        wordAwaited();
        noSuchControllers();
        noneOfThese();
        CHECKS.end();
    }

    private static void ofEachController() {
        LinePair pair = Pairs.ready();
        Pairs.raise(pair, 4);
        pair.take();
        Pairs.raise(pair, 5, 6);
        pair.write(Pairs.CHIEF, 1, 0x88);
        pair.write(Pairs.CHIEF, 0, Pairs.TURN + 3);
        pair.write(Pairs.CHIEF, 0, Pairs.READ_IN_SERVICE);
        Pairs.raise(pair, 13);
        pair.write(Pairs.HELPER, 0, Pairs.POLL);
        pair.read(Pairs.HELPER, 0);
        Pairs.raise(pair, 8, 9);
        pair.write(Pairs.HELPER, 1, 0x40);
        pair.write(Pairs.HELPER, 0, Pairs.TURN + 6);
        int[] chief = {0x64, 0x10, 0x88, 0x74, 3, Pairs.CHIEF_BASE, 0, 1};
        int[] helper = {0x03, 0x20, 0x40, 0x23, 6, Pairs.HELPER_BASE, 0, 0};
        for (int what = 0; what <= 7; what++) {
            CHECKS.same("about(0, " + what + ")", pair.about(0, what), chief[what]);
            CHECKS.same("about(1, " + what + ")", pair.about(1, what), helper[what]);
        }
    }

    private static void wordAwaited() {
        LinePair pair = new LinePair();
        pair.write(Pairs.HELPER, 0, 0x11);
        for (int word : new int[] {2, 3, 4, 0, 0}) {
            CHECKS.same("about(1, 6)", pair.about(1, 6), word);
            CHECKS.same("about(0, 6)", pair.about(0, 6), 0);
            pair.write(Pairs.HELPER, 1, 0);
        }
    }

    private static void noSuchControllers() {
        LinePair pair = Pairs.ready();
        for (int wrong : new int[] {-1, 2, Integer.MIN_VALUE, Integer.MAX_VALUE}) {
            CHECKS.noSuchElement(pair, "about(" + wrong + ", 0)", () -> pair.about(wrong, 0));
        }
        CHECKS.noSuchElement(pair, "about(2, 8)", () -> pair.about(2, 8));
    }

    private static void noneOfThese() {
        LinePair pair = Pairs.ready();
        for (int wrong : new int[] {-1, 8, Integer.MIN_VALUE, Integer.MAX_VALUE}) {
            CHECKS.illegalArgument(pair, "about(0, " + wrong + ")", () -> pair.about(0, wrong));
            CHECKS.illegalArgument(pair, "about(1, " + wrong + ")", () -> pair.about(1, wrong));
        }
    }
}
