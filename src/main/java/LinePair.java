import java.util.NoSuchElementException;

/** Two controllers of eight request lines each; what the helper delivers is a line of the chief. */
public final class LinePair {
    public static final int NONE = -1;

    private static final int HELPERS_LINE = 2;
    private static final int LINES = 8;
    private static final int LINE_OF_NO_REQUEST = 7;

    private final Controller chief;
    private final Controller helper;
    private int emptyAnswers;

    public LinePair() {
        chief = new Controller(HELPERS_LINE);
        helper = new Controller(NONE);
        emptyAnswers = 0;
    }

    public boolean line(int k, boolean up) throws NoSuchElementException {
        if (k < 0 || k >= 2 * LINES || k == HELPERS_LINE) {
            throw new NoSuchElementException();
        }
        boolean moved = k < LINES ? chief.moveLine(k, up) : helper.moveLine(k - LINES, up);
        followHelper();
        return moved;
    }

    public boolean write(int controller, int port, int word)
            throws NoSuchElementException, IllegalArgumentException {
        Controller written = controllerNumbered(controller);
        checkPort(port);
        if (word < 0 || word > 255) {
            throw new IllegalArgumentException();
        }
        if (port == 0) {
            written.acceptAtPort0(word);
        } else {
            written.acceptAtPort1(word);
        }
        followHelper();
        return chief.lineToDeliver() != NONE;
    }

    public int read(int controller, int port) throws NoSuchElementException {
        Controller asked = controllerNumbered(controller);
        checkPort(port);
        if (port == 1) {
            return asked.masked;
        }
        int answer = asked.answerAtPort0();
        followHelper();
        return answer;
    }

    public int take() {
        int line = chief.takeDelivered();
        if (line == NONE) {
            emptyAnswers++;
        }
        return line == HELPERS_LINE ? takeFromHelper() : chief.numberOf(line);
    }

    public int delivers(int controller) throws NoSuchElementException {
        return controllerNumbered(controller).lineToDeliver();
    }

    public int about(int controller, int what) throws NoSuchElementException, IllegalArgumentException {
        Controller asked = controllerNumbered(controller);
        switch (what) {
            case 0: return asked.requested();
            case 1: return asked.inService;
            case 2: return asked.masked;
            case 3: return asked.up;
            case 4: return asked.lowest;
            case 5: return asked.base;
            case 6: return asked.awaited;
            case 7: return asked.readChoice;
            default: throw new IllegalArgumentException();
        }
    }

    public boolean mode(int controller, int which) throws NoSuchElementException, IllegalArgumentException {
        Controller asked = controllerNumbered(controller);
        switch (which) {
            case 0: return asked.ready;
            case 1: return asked.byLevels;
            case 2: return asked.specialMask;
            case 3: return asked.specialNesting;
            case 4: return asked.endsAtOnce;
            case 5: return asked.turnsAtOnce;
            case 6: return asked.pollWaits;
            default: throw new IllegalArgumentException();
        }
    }

    public int count(int what) throws IllegalArgumentException {
        switch (what) {
            case 0: return chief.takenLines + helper.takenLines;
            case 1: return emptyAnswers;
            case 2: return chief.endedLines + helper.endedLines;
            default: throw new IllegalArgumentException();
        }
    }

    private Controller controllerNumbered(int controller) {
        if (controller != 0 && controller != 1) {
            throw new NoSuchElementException();
        }
        return controller == 0 ? chief : helper;
    }

    private void checkPort(int port) {
        if (port != 0 && port != 1) {
            throw new NoSuchElementException();
        }
    }

    private int takeFromHelper() {
        int line = helper.takeDelivered();
        // Down even if the helper delivers again: only so does a chief by edges see a new request.
        chief.moveLine(HELPERS_LINE, false);
        followHelper();
        return helper.numberOf(line);
    }

    private void followHelper() {
        chief.moveLine(HELPERS_LINE, helper.lineToDeliver() != NONE);
    }

    /** One controller; sets of lines are held as bits. */
    private static final class Controller {
        private final int nestingLine;
        private int up;
        private int requestedByEdge;
        private int inService;
        private int masked;
        private int lowest;
        private int base;
        private int awaited;
        private int readChoice;
        private boolean fourthFollows;
        private boolean ready;
        private boolean byLevels;
        private boolean specialMask;
        private boolean specialNesting;
        private boolean endsAtOnce;
        private boolean turnsAtOnce;
        private boolean pollWaits;
        private int takenLines;
        private int endedLines;

        /** nestingLine: the line that special nesting keeps from blocking itself, or NONE. */
        private Controller(int nestingLine) {
            this.nestingLine = nestingLine;
            lowest = LINES - 1;
        }

        private boolean moveLine(int line, boolean toUp) {
            if (hasBit(up, line) == toUp) {
                return false;
            }
            up ^= 1 << line;
            // An edge is noted by levels too: no harm, since every change of that mode forgets all edges.
            requestedByEdge = toUp ? requestedByEdge | 1 << line : without(requestedByEdge, line);
            return true;
        }

        private int requested() {
            return byLevels ? up : requestedByEdge;
        }

        private int lineToDeliver() {
            if (!ready) {
                return NONE;
            }
            int line = highestOf(requested() & ~masked);
            if (line == NONE) {
                return NONE;
            }
            int blocker = highestOf(blockersOf(line));
            return blocker == NONE || rankOf(line) < rankOf(blocker) ? line : NONE;
        }

        private int blockersOf(int line) {
            int blockers = inServiceThatCounts();
            return specialNesting && line == nestingLine ? without(blockers, line) : blockers;
        }

        private int inServiceThatCounts() {
            return specialMask ? inService & ~masked : inService;
        }

        /** The line that was taken, or NONE. */
        private int takeDelivered() {
            int line = lineToDeliver();
            if (line == NONE) {
                return NONE;
            }
            requestedByEdge = without(requestedByEdge, line);
            if (!endsAtOnce) {
                inService |= 1 << line;
            } else if (turnsAtOnce) {
                lowest = line;
            }
            takenLines++;
            return line;
        }

        private int numberOf(int line) {
            return base + (line == NONE ? LINE_OF_NO_REQUEST : line);
        }

        private int answerAtPort0() {
            if (pollWaits) {
                pollWaits = false;
                int line = takeDelivered();
                return line == NONE ? 0 : 128 + line;
            }
            return readChoice == 0 ? requested() : inService;
        }

        private void acceptAtPort0(int word) {
            if (hasBit(word, 4)) {
                begin(word);
            } else if (hasBit(word, 3)) {
                choose(word);
            } else {
                endOrTurn(word >> 5, word & 7);
            }
        }

        private void acceptAtPort1(int word) {
            switch (awaited) {
                case 2:
                    base = word & 0xF8;
                    awaited = 3;
                    break;
                case 3:
                    awaited = fourthFollows ? 4 : 0;
                    ready = !fourthFollows;
                    break;
                case 4:
                    endsAtOnce = hasBit(word, 1);
                    specialNesting = hasBit(word, 4);
                    awaited = 0;
                    ready = true;
                    break;
                default:
                    masked = word;
                    break;
            }
        }

        private void begin(int word) {
            masked = 0;
            inService = 0;
            requestedByEdge = 0;
            lowest = LINES - 1;
            byLevels = hasBit(word, 3);
            specialMask = false;
            specialNesting = false;
            endsAtOnce = false;
            turnsAtOnce = false;
            pollWaits = false;
            readChoice = 0;
            ready = false;
            awaited = 2;
            fourthFollows = hasBit(word, 0);
        }

        private void choose(int word) {
            if (hasBit(word, 6)) {
                specialMask = hasBit(word, 5);
            }
            if (hasBit(word, 2)) {
                pollWaits = true;
            }
            if (hasBit(word, 1)) {
                readChoice = word & 1;
            }
        }

        private void endOrTurn(int order, int line) {
            switch (order) {
                case 0:
                    turnsAtOnce = false;
                    break;
                case 1:
                    end(highestOf(inServiceThatCounts()));
                    break;
                case 3:
                    end(line);
                    break;
                case 4:
                    turnsAtOnce = true;
                    break;
                case 5:
                    endHighestAndTurn();
                    break;
                case 6:
                    lowest = line;
                    break;
                case 7:
                    end(line);
                    lowest = line;
                    break;
                default:
                    break;
            }
        }

        private void endHighestAndTurn() {
            int line = highestOf(inServiceThatCounts());
            if (line != NONE) {
                end(line);
                lowest = line;
            }
        }

        private void end(int line) {
            if (line != NONE && hasBit(inService, line)) {
                inService = without(inService, line);
                endedLines++;
            }
        }

        private int highestOf(int lines) {
            for (int rank = 0; rank < LINES; rank++) {
                int line = (lowest + 1 + rank) & 7;
                if (hasBit(lines, line)) {
                    return line;
                }
            }
            return NONE;
        }

        /** 0 for the line behind the lowest, which has the highest priority. */
        private int rankOf(int line) {
            return (line - lowest - 1) & 7;
        }

        private static boolean hasBit(int bits, int bit) {
            return (bits >> bit & 1) != 0;
        }

        private static int without(int lines, int line) {
            return lines & ~(1 << line);
        }
    }
}
