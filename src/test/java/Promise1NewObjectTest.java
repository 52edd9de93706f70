/** Promise 1: a new object has both controllers not ready and all lines down. */
public final class Promise1NewObjectTest {
    private static final Checks CHECKS = new Checks();

    private Promise1NewObjectTest() {
    }

    public static void main(String[] args) {
        stateAtFirst();
        answersAtFirst();
        objectsShareNothing();
        CHECKS.end();
    }

    private static void stateAtFirst() {
        CHECKS.sentence("Both not ready, all lines down.");
        CHECKS.same("a new object", Pairs.stateOf(new LinePair()),
                "chief 0 0 0 0 7 0 0 0 0000000 delivers -1; helper 0 0 0 0 7 0 0 0 0000000 delivers -1; count 0 0 0");
    }

    private static void answersAtFirst() {
        CHECKS.sentence("Both not ready, all lines down. (the first answers)");
        LinePair pair = new LinePair();
        for (int controller = 0; controller <= 1; controller++) {
            CHECKS.same("read at port 0", pair.read(controller, 0), 0);
            CHECKS.same("read at port 1", pair.read(controller, 1), 0);
        }
        CHECKS.same("take", pair.take(), 7);
        for (int k = 0; k < 16; k++) {
            if (k != 2) {
                CHECKS.same("line " + k + " goes down", pair.line(k, false), false);
            }
        }
    }

    private static void objectsShareNothing() {
        CHECKS.sentence("`LinePair()` (each object for itself)");
        LinePair used = Pairs.ready();
        Pairs.raise(used, 0, 9);
        used.take();
        used.take();
        LinePair fresh = new LinePair();
        CHECKS.same("an object beside a used one", fresh.count(0) + fresh.count(1) + fresh.about(0, 3), 0);
        CHECKS.same("it is ready", fresh.mode(0, 0), false);
    }
}
