import java.util.concurrent.Callable;

/** Compares answers with those that are due; an exception counts as the answer "throws." and its name. */
final class Check {
    static final String IAE = "throws.IllegalArgumentException";
    static final String ISE = "throws.IllegalStateException";
    static final String IOOBE = "throws.IndexOutOfBoundsException";
    static final String NSEE = "throws.NoSuchElementException";
    static final String AE = "throws.ArithmeticException";

    private static int wrong = 0;

    private Check() {
    }

    static Object answerOf(Callable<Object> call) {
        try {
            return call.call();
        } catch (Exception e) {
            return "throws." + e.getClass().getSimpleName();
        }
    }

    /** Types count too: an int is due as an Integer, a char as a Character. */
    static void due(Object want, Callable<Object> call) {
        Object got = answerOf(call);
        if (!want.equals(got)) {
            tell("answered " + got + ", due is " + want);
        }
    }

    static void same(String what, Object want, Object got) {
        if (!want.equals(got)) {
            tell(what + ": " + got + ", due is " + want);
        }
    }

    static void end() {
        System.out.println(wrong == 0 ? "all answers are as due" : wrong + " answers are not as due");
        if (wrong != 0) {
            System.exit(1);
        }
    }

    private static void tell(String text) {
        wrong++;
        StackWalker.StackFrame place = StackWalker.getInstance().walk(frames ->
                frames.filter(frame -> !frame.getClassName().equals("Check")).findFirst().orElseThrow());
        System.out.println(place.getFileName() + ":" + place.getLineNumber() + " " + text);
    }
}
