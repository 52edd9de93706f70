/** Terms: words at port 0 without bit 4 and with bit 3. */
public final class TermsChoicesTest {
    private static final Checks CHECKS = new Checks();

    private TermsChoicesTest() {
    }

    /** Looks at a word that was written when special mask, a waiting poll and READ were all off, or all on. */
    private interface Look {
        void at(LinePair pair, int controller, int word, boolean wereOn);
    }

    public static void main(String[] args) {
        CHECKS.sentence("bits 6 and 5: 2 special mask is off, 3 it is on");
        eachWord(TermsChoicesTest::specialMask);
        CHECKS.sentence("bit 2: a POLL waits");
        eachWord((pair, controller, word, wereOn) -> CHECKS.same("a poll waits behind " + word,
                pair.mode(controller, 6), wereOn || (word & 4) != 0));
        CHECKS.sentence("bits 1 and 0: 2 READ is 0, 3 it is 1");
        eachWord(TermsChoicesTest::read);
        CHECKS.sentence("PORT 0 without bit 4, with bit 3 (and nothing else changes)");
        eachWord(TermsChoicesTest::rest);
        CHECKS.end();
    }

    private static void eachWord(Look look) {
        for (int controller = 0; controller <= 1; controller++) {
            for (int word = 0; word <= 255; word++) {
                if ((word & 0x18) == 0x08) {
                    LinePair off = busy(controller);
                    off.write(controller, 0, word);
                    look.at(off, controller, word, false);
                    LinePair on = busy(controller);
                    on.write(controller, 0, 0x6F);
                    on.write(controller, 0, word);
                    look.at(on, controller, word, true);
                    LinePair never = new LinePair();
                    never.write(controller, 0, word);
                    look.at(never, controller, word, false);
                }
            }
        }
    }

    private static LinePair busy(int controller) {
        LinePair pair = Pairs.ready();
        Pairs.serve(pair, controller, 5);
        Pairs.move(pair, controller, 6, true);
        pair.write(controller, 0, Pairs.TURN + 3);
        return pair;
    }

    private static void specialMask(LinePair pair, int controller, int word, boolean wereOn) {
        int choice = word >> 5 & 3;
        CHECKS.same("special mask behind " + word, pair.mode(controller, 2), choice == 3 || choice < 2 && wereOn);
        CHECKS.same("the other's", pair.mode(1 - controller, 2), false);
    }

    private static void read(LinePair pair, int controller, int word, boolean wereOn) {
        int choice = word & 3;
        CHECKS.same("READ behind " + word, pair.about(controller, 7), choice == 3 || choice < 2 && wereOn ? 1 : 0);
        CHECKS.same("the other's", pair.about(1 - controller, 7), 0);
    }

    private static void rest(LinePair pair, int controller, int word, boolean wereOn) {
        LinePair untouched = pair.mode(controller, 0) ? busy(controller) : new LinePair();
        for (int what = 0; what <= 6; what++) {
            CHECKS.same("about " + what + " behind " + word, pair.about(controller, what),
                    untouched.about(controller, what));
        }
        for (int which : new int[] {0, 1, 3, 4, 5}) {
            CHECKS.same("mode " + which + " behind " + word, pair.mode(controller, which),
                    untouched.mode(controller, which));
        }
        CHECKS.same("the other behind " + word, Pairs.stateOf(pair, 1 - controller),
                Pairs.stateOf(untouched, 1 - controller));
        CHECKS.same("ended by " + word, pair.count(2), 0);
    }
}
