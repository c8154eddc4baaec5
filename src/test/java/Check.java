/** The few assertions that the tests need. */
final class Check {
    private Check() {
    }

    static void same(Object due, Object answer) {
        if (!due.equals(answer)) {
            throw new AssertionError("due is " + due + ", the answer is " + answer);
        }
    }

    static void fails(Class<? extends RuntimeException> due, Runnable call) {
        same("throws " + due.getSimpleName(), outcome(call));
    }

    private static String outcome(Runnable call) {
        try {
            call.run();
            return "throws nothing";
        } catch (RuntimeException exception) {
            return "throws " + exception.getClass().getSimpleName();
        }
    }
}
