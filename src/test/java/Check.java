/** What the tests say with: it counts the answers that are not due, and prints them. */
final class Check {
    private static int checks = 0;
    private static int wrong = 0;

    private Check() {
    }

    static void same(String what, Object got, Object due) {
        checks++;
        if (!due.equals(got)) {
            wrong++;
            System.out.println(what + " answered " + got + ", due is " + due);
        }
    }

    static void thrown(String what, Class<? extends Exception> due, Runnable call) {
        same(what, exceptionOf(call), due.getSimpleName());
    }

    private static String exceptionOf(Runnable call) {
        try {
            call.run();
            return "no exception";
        } catch (RuntimeException e) {
            return e.getClass().getSimpleName();
        }
    }

    static int countWrong() {
        return wrong;
    }

    static void finish() {
        System.out.println(checks + " checks, " + wrong + " wrong");
        if (checks == 0 || wrong > 0) {
            System.exit(1);
        }
    }
}
