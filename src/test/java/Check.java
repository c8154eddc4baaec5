import java.util.function.Supplier;

/** The few assertions that the tests need. */
final class Check {
    private Check() {
    }

    static void same(Object due, Object answer) {
        same("", due, answer);
    }

    static void same(String about, Object due, Object answer) {
        if (!due.equals(answer)) {
            throw new AssertionError(about + (about.isEmpty() ? "" : ": ") + "due is " + due + ", the answer is " + answer);
        }
    }

    static void fails(Class<? extends RuntimeException> due, Runnable call) {
        fails("", due, call);
    }

    static void fails(String about, Class<? extends RuntimeException> due, Runnable call) {
        same(about, "throws " + due.getSimpleName(), outcome(() -> {
            call.run();
            return "nothing is thrown";
        }));
    }

    /** What the call answers, or what it throws. */
    static String outcome(Supplier<Object> call) {
        try {
            return String.valueOf(call.get());
        } catch (RuntimeException exception) {
            return "throws " + exception.getClass().getSimpleName();
        }
    }
}
