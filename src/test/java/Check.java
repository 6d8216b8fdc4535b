/** What the tests share: it compares the answers of calls with those that are due, and counts. */
final class Check {
    static final String INDEX = "throws.IndexOutOfBoundsException";
    static final String ARGUMENT = "throws.IllegalArgumentException";
    static final String STATE = "throws.IllegalStateException";

    private static final int MOST_PRINTED = 50;
    private static String heading = "";
    private static int looked = 0;
    private static int wrong = 0;

    interface Call {
        Object answer();
    }

    private Check() {
    }

    /** What stands ahead of every answer told from now on. */
    static void under(String words) {
        heading = words;
    }

    static int looked() {
        return looked;
    }

    /** The answer as a text; an exception by its name, and as foreign if the class itself did not throw it. */
    static String outcome(Call call) {
        try {
            return String.valueOf(call.answer());
        } catch (RuntimeException e) {
            StackTraceElement[] trace = e.getStackTrace();
            boolean isOwn = trace.length > 0 && trace[0].getClassName().startsWith("NetlistBench");
            return "throws." + e.getClass().getSimpleName() + (isOwn ? "" : " (foreign)");
        }
    }

    static void due(Call call, Object want) {
        due(place(), outcome(call), String.valueOf(want));
    }

    /** A fraction, that the call tells part by part. */
    static void dueFraction(Part call, long upper, long lower) {
        due(place() + ", numerator", outcome(() -> call.answer(true)), String.valueOf(upper));
        due(place() + ", denominator", outcome(() -> call.answer(false)), String.valueOf(lower));
    }

    /** Any answer but this one, and no foreign exception. */
    static void dueOther(String what, Call call, String unwanted) {
        String got = outcome(call);
        boolean isFine = !got.equals(unwanted) && !got.endsWith("(foreign)");
        due(what, isFine ? "another" : got, "another");
    }

    static void due(String what, String got, String want) {
        looked++;
        if (!got.equals(want)) {
            wrong++;
            if (wrong <= MOST_PRINTED) {
                System.out.println(heading + what + ": answered " + got + ", due is " + want);
            }
        }
    }

    /** Ends the test: with exit code 1, if an answer was not the one that is due. */
    static void end() {
        System.out.println(looked + " answers looked at, " + wrong + " not as due");
        if (wrong != 0 || looked == 0) {
            System.exit(1);
        }
    }

    private static String place() {
        for (StackTraceElement element : new Throwable().getStackTrace()) {
            if (!element.getClassName().equals("Check") && !element.getMethodName().startsWith("due")) {
                return element.getFileName() + ":" + element.getLineNumber();
            }
        }
        return "?";
    }

    interface Part {
        Object answer(boolean isUpper);
    }
}
