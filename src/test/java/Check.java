/** What the tests say with: it counts the answers that are not due, and prints them. */
final class Check {
    static final Class<IndexOutOfBoundsException> INDEX = IndexOutOfBoundsException.class;
    static final Class<IllegalArgumentException> ARGUMENT = IllegalArgumentException.class;
    static final Class<IllegalStateException> STATE = IllegalStateException.class;
    static final Class<UnsupportedOperationException> UNSUPPORTED = UnsupportedOperationException.class;
    static final Class<java.util.NoSuchElementException> ELEMENT = java.util.NoSuchElementException.class;
    static final Class<ArithmeticException> ARITHMETIC = ArithmeticException.class;

    private static int checks = 0;
    private static int wrong = 0;
    private static String heading = "";
    private static final int MOST_SECONDS = 300;

    // A call that fails to end must fail the test too.
    static {
        Thread watch = new Thread(Check::endLateTest);
        watch.setDaemon(true);
        watch.start();
    }

    private Check() {
    }

    private static void endLateTest() {
        try {
            Thread.sleep(1000L * MOST_SECONDS);
        } catch (InterruptedException e) {
            return;
        }
        System.out.println(heading + "did not end in " + MOST_SECONDS + " seconds");
        Runtime.getRuntime().halt(1);
    }

    /** All that is checked from now on is printed behind these words. */
    static void under(String words) {
        heading = words + " | ";
    }

    static void same(String what, Object got, Object due) {
        checks++;
        if (!due.equals(got)) {
            wrong++;
            System.out.println(heading + what + " answered " + got + ", due is " + due);
        }
    }

    static void thrown(String what, Class<? extends Exception> due, Runnable call) {
        same(what, exceptionOf(call), due.getSimpleName());
    }

    private static String exceptionOf(Runnable call) {
        try {
            call.run();
            return "no exception";
        } catch (RuntimeException e) {
            return nameOf(e);
        }
    }

    /** The exception's name; one that the machine or the library threw, not the program, is told as such. */
    static String nameOf(RuntimeException e) {
        StackTraceElement[] trace = e.getStackTrace();
        String name = e.getClass().getSimpleName();
        boolean isThrownByCode = trace.length > 0 && trace[0].getClassName().indexOf('.') < 0;
        return isThrownByCode ? name : "the machine's " + name;
    }

    static int countWrong() {
        return wrong;
    }

    static void finish() {
        System.out.println(checks + " checks, " + wrong + " wrong");
        if (checks == 0 || wrong > 0) {
            System.exit(1);
        }
    }
}
