import java.util.NoSuchElementException;
import java.util.concurrent.Callable;

/** Compares answers with what is due, prints every one that differs, and ends a test. */
final class Check {
    static final Class<IndexOutOfBoundsException> INDEX = IndexOutOfBoundsException.class;
    static final Class<IllegalArgumentException> ARGUMENT = IllegalArgumentException.class;
    static final Class<IllegalStateException> STATE = IllegalStateException.class;
    static final Class<NoSuchElementException> ENDED = NoSuchElementException.class;

    private static int asked = 0;
    private static int wrong = 0;
    private static int sentences = 0;
    private static int askedBefore = 0;
    private static String sentence = "";

    private Check() {
    }

    /** The answers from here on are about these words of the document: they are told with each one that differs. */
    static void sentence(String words) {
        endSentence();
        sentences++;
        sentence = words;
        askedBefore = asked;
    }

    /** A sentence that nothing was asked about has no test. */
    private static void endSentence() {
        if (sentences > 0 && asked == askedBefore) {
            wrong++;
            System.out.println("nothing was asked about: " + sentence);
        }
    }

    static void same(String what, Object got, Object due) {
        asked++;
        if (!got.equals(due)) {
            wrong++;
            System.out.println((sentence.isEmpty() ? "" : "\"" + sentence + "\": ")
                    + what + " answered " + got + ", due is " + due);
        }
    }

    static void due(String what, long got, long due) {
        same(what, got, due);
    }

    static void holds(String what, boolean claim) {
        same(what, claim, true);
    }

    static void refuses(String what, Class<? extends Exception> due, Callable<?> call) {
        same(what, outcome(call), "throws." + due.getSimpleName());
    }

    /** What a call answers, or throws, as one text. */
    static String outcome(Callable<?> call) {
        try {
            return String.valueOf(call.call());
        } catch (Throwable e) {
            return "throws." + e.getClass().getSimpleName();
        }
    }

    static void end() {
        endSentence();
        System.out.println(asked + " answers" + (sentences == 0 ? "" : " about " + sentences + " sentences") + ", "
                + wrong + " not as due");
        if (wrong != 0 || asked == 0) {
            System.exit(1);
        }
    }
}
