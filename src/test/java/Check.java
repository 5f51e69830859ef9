import java.util.function.LongSupplier;

/** Compares answers with those that are due, prints each that differs, and counts them. */
final class Check {
    private final String suite;
    private String part = "";
    private int checks = 0;
    private int wrong = 0;

    Check(String suite) {
        this.suite = suite;
    }

    void begin(String newPart) {
        part = newPart;
    }

    void is(String call, long want, LongSupplier got) {
        compare(call, Long.toString(want), answerOf(got));
    }

    void fails(String call, Class<? extends RuntimeException> want, LongSupplier got) {
        compare(call, "throws " + want.getName(), answerOf(got));
    }

    void compare(String call, String want, String got) {
        checks++;
        if (!want.equals(got)) {
            wrong++;
            System.out.println(part + ": " + call + " answered " + got + ", due is " + want);
        }
    }

    /** The very class of what is thrown counts, not one above it. */
    static String answerOf(LongSupplier call) {
        try {
            return Long.toString(call.getAsLong());
        } catch (Throwable thrown) {
            return "throws " + thrown.getClass().getName();
        }
    }

    int wrong() {
        return wrong;
    }

    void end() {
        System.out.println(suite + ": " + checks + " answers, " + wrong + " of them not as due");
        if (wrong != 0) {
            System.exit(1);
        }
    }
}
