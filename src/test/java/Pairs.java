/** Pairs in states that several tests need, and a text of all that the face shows of one. */
final class Pairs {
    static final int CHIEF = 0;
    static final int HELPER = 1;
    static final int CHIEF_BASE = 32;
    static final int HELPER_BASE = 64;

    // First words.
    static final int EDGES = 0x11;
    static final int LEVELS = 0x19;

    // Fourth words.
    static final int PLAIN = 0x01;
    static final int ENDS_AT_ONCE = 0x02;
    static final int SPECIAL_NESTING = 0x10;

    // Words at port 0; those that name a line have it added.
    static final int TURNS_AT_ONCE_OFF = 0x00;
    static final int END_HIGHEST = 0x20;
    static final int NOTHING = 0x40;
    static final int END_LINE = 0x60;
    static final int TURNS_AT_ONCE_ON = 0x80;
    static final int END_HIGHEST_AND_TURN = 0xA0;
    static final int TURN = 0xC0;
    static final int END_LINE_AND_TURN = 0xE0;
    static final int SPECIAL_MASK_OFF = 0x48;
    static final int SPECIAL_MASK_ON = 0x68;
    static final int POLL = 0x0C;
    static final int READ_REQUESTED = 0x0A;
    static final int READ_IN_SERVICE = 0x0B;

    private Pairs() {
    }

    /** Both controllers ready, by edges, with nothing special. */
    static LinePair ready() {
        return ready(EDGES, PLAIN, EDGES, PLAIN);
    }

    static LinePair ready(int chiefFirst, int chiefFourth, int helperFirst, int helperFourth) {
        LinePair pair = new LinePair();
        begin(pair, CHIEF, chiefFirst, chiefFourth);
        begin(pair, HELPER, helperFirst, helperFourth);
        return pair;
    }

    /** The fourth word is written only if the first one asks for it. */
    static void begin(LinePair pair, int controller, int first, int fourth) {
        pair.write(controller, 0, first);
        pair.write(controller, 1, controller == CHIEF ? CHIEF_BASE : HELPER_BASE);
        pair.write(controller, 1, 4);
        if ((first & 1) != 0) {
            pair.write(controller, 1, fourth);
        }
    }

    static void raise(LinePair pair, int... lines) {
        for (int line : lines) {
            pair.line(line, true);
        }
    }

    static void lower(LinePair pair, int... lines) {
        for (int line : lines) {
            pair.line(line, false);
        }
    }

    /** All that can be asked without a change, in 35 calls. */
    static String stateOf(LinePair pair) {
        StringBuilder text = new StringBuilder();
        for (int controller = CHIEF; controller <= HELPER; controller++) {
            text.append(controller == CHIEF ? "chief" : "; helper");
            for (int what = 0; what <= 7; what++) {
                text.append(' ').append(pair.about(controller, what));
            }
            text.append(' ');
            for (int which = 0; which <= 6; which++) {
                text.append(pair.mode(controller, which) ? '1' : '0');
            }
            text.append(" delivers ").append(pair.delivers(controller));
        }
        for (int what = 0; what <= 2; what++) {
            text.append(what == 0 ? "; count " : " ").append(pair.count(what));
        }
        return text.toString();
    }
}
