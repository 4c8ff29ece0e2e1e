/** What the tests say with: it counts the answers that are not due, and prints them. */
final class Check {
    private static int checks = 0;
    private static int wrong = 0;

    private Check() {
    }

    static void same(String what, Object got, Object due) {
        checks++;
        if (!due.equals(got)) {
            wrong++;
            System.out.println(what + " answered " + got + ", due is " + due);
        }
    }

    static void thrown(String what, Class<? extends Exception> due, Runnable call) {
        same(what, exceptionOf(call), due.getSimpleName());
    }

    private static String exceptionOf(Runnable call) {
        try {
            call.run();
            return "no exception";
        } catch (RuntimeException e) {
            return nameOf(e);
        }
    }

    /** The exception's name; one that the machine or the library threw, not the program, is told as such. */
    static String nameOf(RuntimeException e) {
        StackTraceElement[] trace = e.getStackTrace();
        String name = e.getClass().getSimpleName();
        boolean isThrownByCode = trace.length > 0 && trace[0].getClassName().indexOf('.') < 0;
        return isThrownByCode ? name : "the machine's " + name;
    }

    static int countWrong() {
        return wrong;
    }

    static void finish() {
        System.out.println(checks + " checks, " + wrong + " wrong");
        if (checks == 0 || wrong > 0) {
            System.exit(1);
        }
    }
}
