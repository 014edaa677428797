/** Compares answers and exceptions with those that are due; end() ends the test with exit code 1 if one was not. */
final class Due {
    interface Call {
        long answer();
    }

    static final Class<? extends RuntimeException> PLACE = IndexOutOfBoundsException.class;
    static final Class<? extends RuntimeException> RANGE = IllegalArgumentException.class;
    static final Class<? extends RuntimeException> STATE = IllegalStateException.class;

    private static int wrong = 0;

    private Due() {
    }

    /** The answer of a call, or the name of the exception that it throws. */
    static String outcome(Call call) {
        try {
            return Long.toString(call.answer());
        } catch (RuntimeException thrown) {
            String name = thrown.getClass().getSimpleName();
            return thrownByStatement(thrown) ? name : "by itself " + name;
        }
    }

    /** An exception of the library starts in the library; one of a throw statement in the class or the model. */
    private static boolean thrownByStatement(RuntimeException thrown) {
        StackTraceElement[] calls = thrown.getStackTrace();
        return calls.length > 0 && calls[0].getClassName().matches("(FieldStore|Model)([$].*)?");
    }

    static void answers(String what, long due, Call call) {
        same(what, Long.toString(due), outcome(call));
    }

    static void fails(String what, Class<? extends RuntimeException> due, Call call) {
        same(what, due.getSimpleName(), outcome(call));
    }

    static void same(String what, String due, String got) {
        if (!due.equals(got)) {
            wrong++;
            System.out.println(what + ": answered " + got + ", due is " + due);
        }
    }

    static long bit(boolean answer) {
        return answer ? 1 : 0;
    }

    static void end() {
        if (wrong > 0) {
            System.out.println(wrong + " wrong");
            System.exit(1);
        }
    }
}
