/** Pairs in states that several tests need, and a text of all that the face shows of one. */
final class Pairs {
    static final int CHIEF = 0;
    static final int HELPER = 1;
    static final int CHIEF_BASE = 32;
    static final int HELPER_BASE = 64;

    // First words.
    static final int EDGES = 0x11;
    static final int LEVELS = 0x19;

    // Fourth words.
    static final int PLAIN = 0x01;
    static final int ENDS_AT_ONCE = 0x02;
    static final int SPECIAL_NESTING = 0x10;

    // Words at port 0; those that name a line have it added.
    static final int TURNS_AT_ONCE_OFF = 0x00;
    static final int END_HIGHEST = 0x20;
    static final int NOTHING = 0x40;
    static final int END_LINE = 0x60;
    static final int TURNS_AT_ONCE_ON = 0x80;
    static final int END_HIGHEST_AND_TURN = 0xA0;
    static final int TURN = 0xC0;
    static final int END_LINE_AND_TURN = 0xE0;
    static final int SPECIAL_MASK_OFF = 0x48;
    static final int SPECIAL_MASK_ON = 0x68;
    static final int POLL = 0x0C;
    static final int READ_REQUESTED = 0x0A;
    static final int READ_IN_SERVICE = 0x0B;

    private Pairs() {
    }

    /** Both controllers ready, by edges, with nothing special. */
    static LinePair ready() {
        return ready(EDGES, PLAIN, EDGES, PLAIN);
    }

    static LinePair ready(int chiefFirst, int chiefFourth, int helperFirst, int helperFourth) {
        LinePair pair = new LinePair();
        begin(pair, CHIEF, chiefFirst, chiefFourth);
        begin(pair, HELPER, helperFirst, helperFourth);
        return pair;
    }

    /** The fourth word is written only if the first one asks for it. */
    static void begin(LinePair pair, int controller, int first, int fourth) {
        pair.write(controller, 0, first);
        pair.write(controller, 1, controller == CHIEF ? CHIEF_BASE : HELPER_BASE);
        pair.write(controller, 1, 4);
        if ((first & 1) != 0) {
            pair.write(controller, 1, fourth);
        }
    }

    static void raise(LinePair pair, int... lines) {
        for (int line : lines) {
            pair.line(line, true);
        }
    }

    static void lower(LinePair pair, int... lines) {
        for (int line : lines) {
            pair.line(line, false);
        }
    }

    /** Both ready and by levels, so that a line can be requested and in service at once. */
    static LinePair byLevels() {
        return ready(LEVELS, PLAIN, LEVELS, PLAIN);
    }

    /** The chief's line 2 is moved by the helper's line 0, of a ready helper with nothing in service. */
    static boolean move(LinePair pair, int controller, int line, boolean up) {
        boolean own = controller == HELPER || line != 2;
        return pair.line(own ? 8 * controller + line : 8, up);
    }

    static int poll(LinePair pair, int controller) {
        pair.write(controller, 0, POLL);
        return pair.read(controller, 0);
    }

    /** The line comes up, is taken by a poll, and goes down again: the other controller takes nothing. */
    static void serve(LinePair pair, int controller, int line) {
        move(pair, controller, line, true);
        poll(pair, controller);
        move(pair, controller, line, false);
    }

    /** From 0, the highest priority, to 7. */
    static int rank(int line, int lowest) {
        return Math.floorMod(line - lowest - 1, 8);
    }

    /** What one controller shows, without the other and the counts. */
    static String stateOf(LinePair pair, int controller) {
        return stateOf(pair).split("; ")[controller];
    }

    /** Answers that also depend on what cannot be asked for, such as whether a fourth word follows; in 55 calls. */
    static String laterAnswersOf(LinePair pair) {
        StringBuilder text = new StringBuilder();
        for (int controller = CHIEF; controller <= HELPER; controller++) {
            text.append(pair.read(controller, 1)).append(' ').append(pair.read(controller, 0)).append(' ');
            text.append(pair.read(controller, 0)).append(' ').append(pair.take()).append(' ');
            for (int word = 2; word <= 4; word++) {
                text.append(pair.write(controller, 1, 0x12)).append(' ').append(pair.about(controller, 6)).append(' ');
            }
        }
        return text.append(stateOf(pair)).toString();
    }

    /** All that can be asked without a change, in 35 calls. */
    static String stateOf(LinePair pair) {
        StringBuilder text = new StringBuilder();
        for (int controller = CHIEF; controller <= HELPER; controller++) {
            text.append(controller == CHIEF ? "chief" : "; helper");
            for (int what = 0; what <= 7; what++) {
                text.append(' ').append(pair.about(controller, what));
            }
            text.append(' ');
            for (int which = 0; which <= 6; which++) {
                text.append(pair.mode(controller, which) ? '1' : '0');
            }
            text.append(" delivers ").append(pair.delivers(controller));
        }
        for (int what = 0; what <= 2; what++) {
            text.append(what == 0 ? "; count " : " ").append(pair.count(what));
        }
        return text.toString();
    }
}
