import java.util.List;
import java.util.NoSuchElementException;
import java.util.function.Consumer;

/** What it is: what is promised holds up to the 512th call of an object. */
public final class LastCallTest {
    private static final String SENTENCE = "An object is used for at most 512 calls after it has been made";
    private static final Checks CHECKS = new Checks();

    private LastCallTest() {
    }

    public static void main(String[] args) {
        emptyAnswers();
        linesTakenTwoByTwo();
        linesTakenByPolls();
        linesEnded();
        edges();
        turns();
        beginnings();
        refusedCalls();
        everyKindOfCall();
        CHECKS.end();
    }

    private static void emptyAnswers() {
        CHECKS.sentence(SENTENCE + " (511 answers of take() with nothing)");
        LinePair pair = new LinePair();
        for (int call = 1; call <= 511; call++) {
            CHECKS.same("take() as call " + call, pair.take(), 7);
        }
        CHECKS.same("count(1) as call 512", pair.count(1), 511);
    }

    private static void linesTakenTwoByTwo() {
        CHECKS.sentence(SENTENCE + " (502 times two lines taken)");
        LinePair pair = Pairs.ready(Pairs.LEVELS, Pairs.ENDS_AT_ONCE, Pairs.LEVELS, Pairs.ENDS_AT_ONCE);
        pair.line(13, true);
        for (int call = 10; call <= 511; call++) {
            CHECKS.same("take() as call " + call, pair.take(), Pairs.HELPER_BASE + 5);
        }
        CHECKS.same("count(0) as call 512", pair.count(0), 1004);
    }

    private static void linesTakenByPolls() {
        CHECKS.sentence(SENTENCE + " (251 polls)");
        for (int controller = 0; controller <= 1; controller++) {
            LinePair pair = Pairs.ready(Pairs.LEVELS, Pairs.ENDS_AT_ONCE, Pairs.LEVELS, Pairs.ENDS_AT_ONCE);
            pair.line(8 * controller + 7, true);
            for (int call = 10; call <= 510; call += 2) {
                CHECKS.same("poll as call " + (call + 1), Pairs.poll(pair, controller), 135);
            }
            CHECKS.same("count(0) as call 512", pair.count(0), 251);
        }
    }

    private static void linesEnded() {
        CHECKS.sentence(SENTENCE + " (334 lines ended)");
        LinePair pair = Pairs.byLevels();
        pair.line(8, true);
        for (int call = 10; call <= 508; call += 3) {
            CHECKS.same("take() as call " + call, pair.take(), Pairs.HELPER_BASE);
            CHECKS.same("the chief's end", pair.write(Pairs.CHIEF, 0, Pairs.END_HIGHEST), false);
            CHECKS.same("the helper's end", pair.write(Pairs.HELPER, 0, Pairs.END_LINE), true);
        }
        CHECKS.same("count(0) as call 511", pair.count(0), 334);
        CHECKS.same("count(2) as call 512", pair.count(2), 334);
    }

    private static void edges() {
        CHECKS.sentence(SENTENCE + " (503 edges)");
        for (int k : new int[] {0, 15}) {
            LinePair pair = Pairs.ready();
            for (int call = 9; call <= 511; call++) {
                CHECKS.same("line(" + k + ") as call " + call, pair.line(k, call % 2 == 1), true);
            }
            CHECKS.same("delivers as call 512", pair.delivers(0), k == 0 ? 0 : 2);
        }
    }

    private static void turns() {
        CHECKS.sentence(SENTENCE + " (503 turns)");
        for (int controller = 0; controller <= 1; controller++) {
            LinePair pair = Pairs.ready();
            for (int call = 9; call <= 511; call++) {
                pair.write(controller, 0, Pairs.TURN + call % 8);
            }
            CHECKS.same("the lowest as call 512", pair.about(controller, 4), 511 % 8);
        }
    }

    private static void beginnings() {
        CHECKS.sentence(SENTENCE + " (127 beginnings)");
        for (int controller = 0; controller <= 1; controller++) {
            LinePair pair = new LinePair();
            for (int call = 1; call <= 508; call += 4) {
                Pairs.begin(pair, controller, Pairs.LEVELS, Pairs.ENDS_AT_ONCE);
            }
            pair.line(8 * controller + 3, true);
            CHECKS.same("ready as call 510", pair.mode(controller, 0), true);
            CHECKS.same("delivers as call 511", pair.delivers(controller), 3);
            CHECKS.same("the base as call 512", pair.about(controller, 5),
                    controller == Pairs.CHIEF ? Pairs.CHIEF_BASE : Pairs.HELPER_BASE);
        }
    }

    private static void refusedCalls() {
        CHECKS.sentence(SENTENCE + " (refused calls among them)");
        LinePair pair = Pairs.ready();
        for (int call = 9; call <= 510; call++) {
            CHECKS.same("line(2, true) as call " + call + " is refused", refusesLine2(pair), true);
        }
        pair.line(3, true);
        CHECKS.same("take() as call 512", pair.take(), Pairs.CHIEF_BASE + 3);
    }

    private static boolean refusesLine2(LinePair pair) {
        try {
            pair.line(2, true);
            return false;
        } catch (NoSuchElementException e) {
            return true;
        }
    }

    /** Each call of the face as the 512th, behind calls that change nothing. */
    private static void everyKindOfCall() {
        CHECKS.sentence(SENTENCE + " (every kind of call as the 512th)");
        List<Consumer<Comparison>> kinds = List.of(both -> both.line(1, true), both -> both.line(4, false),
                both -> both.line(14, true), both -> both.line(12, false), both -> both.line(2, true),
                both -> both.take(), both -> both.read(0, 0), both -> both.read(1, 0), both -> both.read(0, 1),
                both -> both.read(1, 1), both -> both.read(0, 2), both -> both.delivers(0), both -> both.delivers(1),
                both -> both.delivers(2), both -> both.count(0), both -> both.count(1), both -> both.count(2),
                both -> both.count(3), both -> both.write(0, 0, 256), both -> both.write(2, 0, 0));
        for (Consumer<Comparison> kind : kinds) {
            asThe512th(kind);
        }
        for (int what = 0; what <= 8; what++) {
            int number = what;
            asThe512th(both -> both.about(0, number));
            asThe512th(both -> both.about(1, number));
            asThe512th(both -> both.mode(0, number));
            asThe512th(both -> both.mode(1, number));
        }
        for (int word = 0; word <= 255; word++) {
            int number = word;
            for (int ways = 0; ways <= 3; ways++) {
                int way = ways;
                asThe512th(both -> both.write(way / 2, way % 2, number));
            }
        }
    }

    private static void asThe512th(Consumer<Comparison> kind) {
        Comparison both = new Comparison(CHECKS, "an object near its end");
        for (int controller = 0; controller <= 1; controller++) {
            both.write(controller, 0, Pairs.EDGES);
            both.write(controller, 1, 0xF8);
            both.write(controller, 1, 0);
            both.write(controller, 1, Pairs.SPECIAL_NESTING);
        }
        both.line(7, true);
        both.take();
        both.line(4, true);
        both.line(12, true);
        both.write(1, 0, Pairs.POLL);
        both.write(0, 0, Pairs.READ_IN_SERVICE);
        while (both.callsLeft() > 1) {
            both.delivers(both.callsLeft() % 2);
        }
        kind.accept(both);
    }
}
