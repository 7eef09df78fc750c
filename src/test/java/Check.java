import java.util.Objects;

/** What the tests share: answers are compared, and the wrong ones are printed and counted. */
final class Check {
    /** A call whose answer or exception is looked at. */
    interface Call {
        Object run();
    }

    private static final int MOST_TOLD = 30;
    private static int asked = 0;
    private static int wrong = 0;

    private Check() {
    }

    static void same(String what, Object due, Object got) {
        asked++;
        if (!Objects.equals(due, got)) {
            wrong++;
            if (wrong <= MOST_TOLD) {
                System.out.println(what + ": answered " + got + ", due is " + due);
            }
        }
    }

    static void throwing(String what, Class<? extends RuntimeException> due, Call call) {
        same(what, "throws " + due.getSimpleName(), outcome(call));
    }

    /** The answer, or the exception by its exact class. */
    static Object outcome(Call call) {
        try {
            return call.run();
        } catch (RuntimeException thrown) {
            return "throws " + thrown.getClass().getSimpleName();
        }
    }

    static void finish() {
        System.out.println(asked + " answers, " + wrong + " of them wrong");
        if (wrong > 0 || asked == 0) {
            System.exit(1);
        }
    }
}
