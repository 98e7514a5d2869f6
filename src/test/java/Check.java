/** Collects what is not as due; a test's main method ends with finish(). */
final class Check {
    private static int wrong = 0;
    private static int looked = 0;

    private Check() {
    }

    static void due(String call, long want, long got) {
        looked++;
        if (got != want) {
            wrong++;
            System.out.println(call + " answered " + got + ", due is " + want);
        }
    }

    static void yes(String call, boolean got) {
        due(call, 1, got ? 1 : 0);
    }

    static void no(String call, boolean got) {
        due(call, 0, got ? 1 : 0);
    }

    static void bad(String call, Runnable run) {
        raises(call, IllegalArgumentException.class, run);
    }

    static void full(String call, Runnable run) {
        raises(call, IllegalStateException.class, run);
    }

    static void outside(String call, Runnable run) {
        raises(call, IndexOutOfBoundsException.class, run);
    }

    private static void raises(String call, Class<? extends RuntimeException> want, Runnable run) {
        looked++;
        try {
            run.run();
        } catch (RuntimeException got) {
            if (got.getClass() != want || !isThrownByTheClass(got)) {
                wrong++;
                System.out.println(call + " threw " + got + ", due is " + want.getSimpleName());
            }
            return;
        }
        wrong++;
        System.out.println(call + " threw nothing, due is " + want.getSimpleName());
    }

    /** An exception out of a list of the library has the right class, but nobody threw it. */
    private static boolean isThrownByTheClass(RuntimeException got) {
        StackTraceElement[] trace = got.getStackTrace();
        return trace.length > 0 && trace[0].getClassName().equals("InspectSteps");
    }

    static void finish() {
        System.out.println(wrong == 0 ? looked + " answers are as due" : wrong + " answers are not as due");
        if (wrong != 0) {
            System.exit(1);
        }
    }
}
