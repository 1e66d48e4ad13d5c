import java.util.concurrent.Callable;

/** Compares answers with what is due, prints every one that differs, and ends a test. */
final class Check {
    private static int asked = 0;
    private static int wrong = 0;

    private Check() {
    }

    static void same(String what, Object got, Object due) {
        asked++;
        if (!got.equals(due)) {
            wrong++;
            System.out.println(what + " answered " + got + ", due is " + due);
        }
    }

    static void due(String what, long got, long due) {
        same(what, got, due);
    }

    static void holds(String what, boolean claim) {
        same(what, claim, true);
    }

    static void refuses(String what, Class<? extends Exception> due, Callable<?> call) {
        same(what, outcome(call), "throws." + due.getSimpleName());
    }

    /** What a call answers, or throws, as one text. */
    static String outcome(Callable<?> call) {
        try {
            return String.valueOf(call.call());
        } catch (Throwable e) {
            return "throws." + e.getClass().getSimpleName();
        }
    }

    static void end() {
        System.out.println(asked + " answers, " + wrong + " not as due");
        if (wrong != 0 || asked == 0) {
            System.exit(1);
        }
    }
}
