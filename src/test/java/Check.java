import java.util.NoSuchElementException;

/** Counts the answers that are not due, and how many checks each promise has. */
final class Check {
    static final int PROMISES = 53;
    static final Class<?> INDEX = IndexOutOfBoundsException.class;
    static final Class<?> ARGUMENT = IllegalArgumentException.class;
    static final Class<?> STATE = IllegalStateException.class;
    static final Class<?> ELEMENT = NoSuchElementException.class;
    static final Class<?> UNSUPPORTED = UnsupportedOperationException.class;
    static final Class<?> ARITHMETIC = ArithmeticException.class;

    // The place 0 is that of "Terms", which speaks for all promises.
    private static final int[] CHECKS = new int[PROMISES + 1];
    private static int wrong;

    interface Call {
        Object run();
    }

    private Check() {
    }

    /** The answer of a call, or the class of the exception that it throws. */
    static Object answer(Call call) {
        try {
            return call.run();
        } catch (RuntimeException e) {
            return e.getClass();
        }
    }

    static void due(int promise, Object want, Call call) {
        CHECKS[promise]++;
        Object got = answer(call);
        if (!want.equals(got)) {
            wrong(heading(promise) + ": answered " + got + ", due is " + want + " (" + place() + ")");
        }
    }

    static void wrong(String what) {
        wrong++;
        System.out.println(what);
    }

    static String heading(int promise) {
        return promise == 0 ? "terms" : "promise " + promise;
    }

    static int checksOf(int promise) {
        return CHECKS[promise];
    }

    private static String place() {
        for (StackTraceElement element : Thread.currentThread().getStackTrace()) {
            String name = element.getClassName();
            if (name.endsWith("Test")) {
                return element.getFileName() + ":" + element.getLineNumber();
            }
        }
        return "unknown place";
    }

    /** Reports, and returns whether every answer was due and every promise was checked. */
    static boolean report() {
        int total = 0;
        for (int promise = 0; promise <= PROMISES; promise++) {
            total += CHECKS[promise];
            if (CHECKS[promise] == 0) {
                wrong(heading(promise) + " has no check");
            }
        }
        System.out.println(total + " checks of the terms and " + PROMISES + " promises, " + wrong + " wrong");
        return wrong == 0;
    }
}
