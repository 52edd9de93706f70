import java.util.NoSuchElementException;
import java.util.function.Consumer;
import java.util.function.Supplier;

/** Counts the answers that are not as due, and ends a test with exit code 1 if there was one. */
final class Checks {
    private String sentence = "";
    private int madeForSentence = 0;
    private int made = 0;
    private int wrong = 0;

    /** What is looked at from here on is asked by these words of the document. */
    void sentence(String words) {
        closeSentence();
        sentence = words;
    }

    void same(String what, long got, long want) {
        tell(got == want, what, Long.toString(got), Long.toString(want));
    }

    void same(String what, boolean got, boolean want) {
        tell(got == want, what, Boolean.toString(got), Boolean.toString(want));
    }

    void same(String what, String got, String want) {
        tell(got.equals(want), what, got, want);
    }

    void noSuchElement(String what, Supplier<LinePair> maker, Consumer<LinePair> call) {
        refused(what, NoSuchElementException.class, maker, call);
    }

    void illegalArgument(String what, Supplier<LinePair> maker, Consumer<LinePair> call) {
        refused(what, IllegalArgumentException.class, maker, call);
    }

    /**
     * The call throws just this exception, and the object then answers as one that was never asked.
     * Each call has objects of its own: none may come to more than 512 calls.
     */
    private void refused(String what, Class<?> kind, Supplier<LinePair> maker, Consumer<LinePair> call) {
        LinePair asked = maker.get();
        LinePair neverAsked = maker.get();
        String thrown = "nothing";
        try {
            call.accept(asked);
        } catch (RuntimeException e) {
            thrown = e.getClass().getName();
        }
        same(what + " throws", thrown, kind.getName());
        same("state behind " + what, Pairs.stateOf(asked), Pairs.stateOf(neverAsked));
        same("later answers behind " + what, Pairs.laterAnswersOf(asked), Pairs.laterAnswersOf(neverAsked));
    }

    private void tell(boolean right, String what, String got, String want) {
        made++;
        madeForSentence++;
        if (!right) {
            wrong++;
            String asked = sentence.isEmpty() ? "" : "\"" + sentence + "\": ";
            System.out.println(asked + what + " answered " + got + ", due is " + want);
        }
    }

    private void closeSentence() {
        if (!sentence.isEmpty() && madeForSentence == 0) {
            wrong++;
            System.out.println("\"" + sentence + "\": no answer was looked at");
        }
        madeForSentence = 0;
    }

    void end() {
        closeSentence();
        System.out.println(made + " answers looked at, " + wrong + " not as due");
        if (wrong != 0 || made == 0) {
            System.exit(1);
        }
    }
}
