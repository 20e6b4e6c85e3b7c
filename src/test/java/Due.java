/** Counts the answers that are not the ones due, and ends a test with exit code 1 if there was one. */
final class Due {
    private static int wrong = 0;

    private Due() {
    }

    static void is(String call, long got, long want) {
        if (got != want) {
            note(call + " answered " + got + ", due is " + want);
        }
    }

    static void is(String call, boolean got, boolean want) {
        if (got != want) {
            note(call + " answered " + got + ", due is " + want);
        }
    }

    static void nibbleThrows(String call, PulseRows x, int i) {
        try {
            note(call + " answered " + x.nibble(i) + ", due is ArrayIndexOutOfBoundsException");
        } catch (RuntimeException e) {
            thrown(call, e, ArrayIndexOutOfBoundsException.class);
        }
    }

    static void calibrateThrows(String call, PulseRows x, long length) {
        try {
            note(call + " answered " + x.calibrate(length) + ", due is ArithmeticException");
        } catch (RuntimeException e) {
            thrown(call, e, ArithmeticException.class);
        }
    }

    private static void thrown(String call, RuntimeException got, Class<?> want) {
        if (got.getClass() != want) {
            note(call + " throws " + got.getClass().getName() + ", due is " + want.getName());
        }
    }

    static void note(String text) {
        wrong++;
        System.out.println(text);
    }

    static void end() {
        if (wrong != 0) {
            System.out.println(wrong + " answers are not as due");
            System.exit(1);
        }
    }
}
