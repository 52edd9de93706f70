import java.util.ArrayList;
import java.util.List;
import java.util.NoSuchElementException;
import java.util.TreeSet;

/**
 * The document written a second time, for comparison: sets of lines in place of bits, lists in order of
 * priority in place of ranks, and line 2 worked out from the helper.
 */
final class Model {
    private final Side chief = new Side();
    private final Side helper = new Side();
    private final int[] counts = new int[3];

    private static final class Side {
        final TreeSet<Integer> up = new TreeSet<>();
        final TreeSet<Integer> edges = new TreeSet<>();
        final TreeSet<Integer> inService = new TreeSet<>();
        final TreeSet<Integer> masked = new TreeSet<>();
        /** From the highest priority to the lowest. */
        final List<Integer> order = new ArrayList<>(List.of(0, 1, 2, 3, 4, 5, 6, 7));
        /** By the numbers that mode() has for them. */
        final boolean[] modes = new boolean[7];
        final List<Integer> awaited = new ArrayList<>();
        int base = 0;
        int read = 0;

        TreeSet<Integer> requested() {
            return modes[1] ? up : edges;
        }

        void turn(int lowest) {
            while (order.get(7) != lowest) {
                order.add(order.remove(0));
            }
        }

        boolean blocks(int line) {
            return inService.contains(line) && !(modes[2] && masked.contains(line));
        }
    }

    /** Goes from the highest priority down, and stops at what blocks. */
    private int delivered(Side side) {
        if (!side.modes[0]) {
            return -1;
        }
        for (int line : side.order) {
            boolean wanted = side.requested().contains(line) && !side.masked.contains(line);
            boolean spared = side == chief && line == 2 && side.modes[3];
            if (wanted && (spared || !side.blocks(line))) {
                return line;
            }
            if (side.blocks(line)) {
                return -1;
            }
        }
        return -1;
    }

    private static boolean move(Side side, int line, boolean up) {
        if (!up) {
            side.edges.remove(line);
            return side.up.remove(line);
        }
        if (side.up.add(line)) {
            side.edges.add(line);
            return true;
        }
        return false;
    }

    private void setLine2() {
        move(chief, 2, delivered(helper) != -1);
    }

    private int takenBy(Side side) {
        int line = delivered(side);
        if (line != -1) {
            counts[0]++;
            side.edges.remove(line);
            if (!side.modes[4]) {
                side.inService.add(line);
            }
            if (side.modes[4] && side.modes[5]) {
                side.turn(line);
            }
        }
        return line;
    }

    private Side side(int controller) {
        if (!List.of(0, 1).contains(controller)) {
            throw new NoSuchElementException();
        }
        return controller == 0 ? chief : helper;
    }

    private static void lookAtPort(int port) {
        if (!List.of(0, 1).contains(port)) {
            throw new NoSuchElementException();
        }
    }

    private static void lookAtNumber(int number, int last) {
        if (number < 0 || number > last) {
            throw new IllegalArgumentException();
        }
    }

    boolean line(int k, boolean up) {
        if (!List.of(0, 1, 3, 4, 5, 6, 7, 8, 9, 10, 11, 12, 13, 14, 15).contains(k)) {
            throw new NoSuchElementException();
        }
        boolean moved = move(side(k / 8), k % 8, up);
        setLine2();
        return moved;
    }

    boolean write(int controller, int port, int word) {
        Side side = side(controller);
        lookAtPort(port);
        lookAtNumber(word, 255);
        if (port == 1) {
            writeAtPort1(side, word);
        } else if ((word & 16) != 0) {
            begin(side, word);
        } else if ((word & 8) != 0) {
            choose(side, word);
        } else {
            order(side, word / 32, word % 8);
        }
        setLine2();
        return delivered(chief) != -1;
    }

    private static void writeAtPort1(Side side, int word) {
        if (side.awaited.isEmpty()) {
            side.masked.clear();
            for (int line = 0; line < 8; line++) {
                if ((word & 1 << line) != 0) {
                    side.masked.add(line);
                }
            }
            return;
        }
        int which = side.awaited.remove(0);
        if (which == 2) {
            side.base = word / 8 * 8;
        }
        if (which == 4) {
            side.modes[4] = (word & 2) != 0;
            side.modes[3] = (word & 16) != 0;
        }
        side.modes[0] = side.awaited.isEmpty();
    }

    private static void begin(Side side, int word) {
        side.masked.clear();
        side.inService.clear();
        side.edges.clear();
        side.turn(7);
        for (int mode = 0; mode < 7; mode++) {
            side.modes[mode] = mode == 1 && (word & 8) != 0;
        }
        side.read = 0;
        side.awaited.clear();
        side.awaited.addAll((word & 1) != 0 ? List.of(2, 3, 4) : List.of(2, 3));
    }

    private static void choose(Side side, int word) {
        if ((word & 0x60) == 0x40) {
            side.modes[2] = false;
        } else if ((word & 0x60) == 0x60) {
            side.modes[2] = true;
        }
        side.modes[6] |= (word & 4) != 0;
        if ((word & 3) == 2) {
            side.read = 0;
        } else if ((word & 3) == 3) {
            side.read = 1;
        }
    }

    private void order(Side side, int order, int named) {
        int line = named;
        if (order == 1 || order == 5) {
            line = side.order.stream().filter(side::blocks).findFirst().orElse(-1);
        }
        if (order % 2 == 1 && side.inService.remove(line)) {
            counts[2]++;
        }
        if (order >= 5 && line != -1) {
            side.turn(line);
        }
        if (order == 4 || order == 0) {
            side.modes[5] = order == 4;
        }
    }

    int read(int controller, int port) {
        Side side = side(controller);
        lookAtPort(port);
        if (port == 1) {
            return bits(side.masked);
        }
        if (!side.modes[6]) {
            return bits(side.read == 0 ? side.requested() : side.inService);
        }
        side.modes[6] = false;
        int line = takenBy(side);
        setLine2();
        return line == -1 ? 0 : 128 + line;
    }

    int take() {
        int line = takenBy(chief);
        if (line == -1) {
            counts[1]++;
            return chief.base + 7;
        }
        if (line != 2) {
            return chief.base + line;
        }
        int second = takenBy(helper);
        move(chief, 2, false);
        setLine2();
        return helper.base + second;
    }

    int delivers(int controller) {
        return delivered(side(controller));
    }

    int about(int controller, int what) {
        Side side = side(controller);
        lookAtNumber(what, 7);
        int[] answers = {bits(side.requested()), bits(side.inService), bits(side.masked), bits(side.up),
            side.order.get(7), side.base, side.awaited.isEmpty() ? 0 : side.awaited.get(0), side.read};
        return answers[what];
    }

    boolean mode(int controller, int which) {
        Side side = side(controller);
        lookAtNumber(which, 6);
        return side.modes[which];
    }

    int count(int what) {
        lookAtNumber(what, 2);
        return counts[what];
    }

    private static int bits(TreeSet<Integer> lines) {
        int bits = 0;
        for (int line : lines) {
            bits += 1 << line;
        }
        return bits;
    }
}
