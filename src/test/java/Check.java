/** Compares answers with those that are due and ends a test with exit code 1 if one is not. */
final class Check {
    private static final int MOST_PRINTED = 40;
    private static final long MOST_MILLISECONDS = 600_000;
    private static int checks = 0;
    private static int wrong = 0;

    static {
        Thread guard = new Thread(Check::stopWhatDoesNotEnd);
        guard.setDaemon(true);
        guard.start();
    }

    private Check() {
    }

    /** A call that fails to end must fail its test, not hold it up. */
    private static void stopWhatDoesNotEnd() {
        try {
            Thread.sleep(MOST_MILLISECONDS);
        } catch (InterruptedException e) {
            return;
        }
        System.out.println("the test did not end in time");
        Runtime.getRuntime().halt(1);
    }

    static void due(String call, long got, long want) {
        checks++;
        if (got != want) {
            report(call + " answered " + got + ", due is " + want);
        }
    }

    static void dueFloat(String call, float got, float want) {
        checks++;
        if (got != want) {
            report(call + " answered " + got + ", due is " + want);
        }
    }

    static void holds(String what, boolean held) {
        checks++;
        if (!held) {
            report("does not hold: " + what);
        }
    }

    static int wrongSoFar() {
        return wrong;
    }

    private static void report(String line) {
        wrong++;
        if (wrong <= MOST_PRINTED) {
            System.out.println(line);
        }
    }

    static void end(String name) {
        System.out.println(name + ": " + checks + " checks, " + wrong + " wrong");
        if (checks == 0 || wrong != 0) {
            System.exit(1);
        }
    }
}
