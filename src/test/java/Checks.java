/** Counts the answers that are not as due, and ends a test with exit code 1 if there was one. */
final class Checks {
    private int made = 0;
    private int wrong = 0;

    void same(String what, long got, long want) {
        tell(got == want, what, Long.toString(got), Long.toString(want));
    }

    void same(String what, boolean got, boolean want) {
        tell(got == want, what, Boolean.toString(got), Boolean.toString(want));
    }

    void same(String what, String got, String want) {
        tell(got.equals(want), what, got, want);
    }

    void noSuchElement(LinePair pair, String what, Runnable call) {
        refused(pair, what, java.util.NoSuchElementException.class, call);
    }

    void illegalArgument(LinePair pair, String what, Runnable call) {
        refused(pair, what, IllegalArgumentException.class, call);
    }

    /** The call throws just this exception, and nothing that the face shows has changed. */
    private void refused(LinePair pair, String what, Class<?> kind, Runnable call) {
        String before = Pairs.stateOf(pair);
        String thrown = "nothing";
        try {
            call.run();
        } catch (RuntimeException e) {
            thrown = e.getClass().getName();
        }
        same(what + " throws", thrown, kind.getName());
        same("state behind " + what, Pairs.stateOf(pair), before);
    }

    private void tell(boolean right, String what, String got, String want) {
        made++;
        if (!right) {
            wrong++;
            System.out.println(what + " answered " + got + ", due is " + want);
        }
    }

    void end() {
        System.out.println(made + " answers looked at, " + wrong + " not as due");
        if (wrong != 0 || made == 0) {
            System.exit(1);
        }
    }
}
