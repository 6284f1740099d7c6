/** What the tests share: each call is compared with the answer that is due. */
final class Checks {
    static final String INDEX = "throws.IndexOutOfBoundsException";
    static final String ARGUMENT = "throws.IllegalArgumentException";
    static final String STATE = "throws.IllegalStateException";
    static final String MISSING = "throws.NoSuchElementException";
    static final String UNSUPPORTED = "throws.UnsupportedOperationException";
    static final String ARITHMETIC = "throws.ArithmeticException";

    private static int wrong = 0;

    interface Call {
        Object answer();
    }

    private Checks() {
    }

    static String answerOf(Call call) {
        try {
            return String.valueOf(call.answer());
        } catch (RuntimeException thrown) {
            // The exact class: an exception of the machine is often a subclass of the one that is due.
            return "throws." + thrown.getClass().getSimpleName();
        }
    }

    static void due(Object want, Call call) {
        report(String.valueOf(want), answerOf(call));
    }

    static void wrong(String what) {
        wrong++;
        System.out.println(what);
    }

    static void end(String test) {
        System.out.println(test + (wrong == 0 ? ": all as due" : ": " + wrong + " not as due"));
        if (wrong != 0) {
            System.exit(1);
        }
    }

    private static void report(String want, String got) {
        if (!want.equals(got)) {
            wrong(caller() + ": answered " + got + ", due is " + want);
        }
    }

    /** The line of the test that is checked, not one of its helpers, whose names begin with "due". */
    static String caller() {
        for (StackTraceElement element : new Throwable().getStackTrace()) {
            if (element.getClassName().endsWith("Test") && !element.getMethodName().startsWith("due")) {
                return element.getFileName() + ":" + element.getLineNumber();
            }
        }
        return "?";
    }
}
