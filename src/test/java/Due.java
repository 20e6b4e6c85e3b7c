/**
 * Counts the answers that are not the ones due, sentence by sentence of the document,
 * and ends a test with exit code 1 if there was one.
 */
final class Due {
    private static int wrong = 0;
    private static String sentence = null;
    private static int wrongBefore = 0;
    private static int looks = 0;

    private Due() {
    }

    /** The answers from here on hold these words of the document; the promise or 'Terms' goes before them. */
    static void sentence(String words) {
        endSentence();
        sentence = words;
        wrongBefore = wrong;
        looks = 0;
    }

    private static void endSentence() {
        if (sentence == null) {
            return;
        }
        if (looks == 0) {
            note("nothing was looked at");
        }
        System.out.println((wrong == wrongBefore ? "  holds   " : "  BROKEN  ") + sentence);
        sentence = null;
    }

    static void is(String call, long got, long want) {
        looks++;
        if (got != want) {
            note(call + " answered " + got + ", due is " + want);
        }
    }

    static void is(String call, boolean got, boolean want) {
        looks++;
        if (got != want) {
            note(call + " answered " + got + ", due is " + want);
        }
    }

    static void nibbleThrows(String call, PulseRows x, int i) {
        looks++;
        try {
            note(call + " answered " + x.nibble(i) + ", due is ArrayIndexOutOfBoundsException");
        } catch (RuntimeException e) {
            thrown(call, e, ArrayIndexOutOfBoundsException.class);
        }
    }

    static void calibrateThrows(String call, PulseRows x, long length) {
        looks++;
        try {
            note(call + " answered " + x.calibrate(length) + ", due is ArithmeticException");
        } catch (RuntimeException e) {
            thrown(call, e, ArithmeticException.class);
        }
    }

    private static void thrown(String call, RuntimeException got, Class<?> want) {
        if (got.getClass() != want) {
            note(call + " throws " + got.getClass().getName() + ", due is " + want.getName());
        }
    }

    static void note(String text) {
        wrong++;
        System.out.println((sentence == null ? "" : "[" + sentence + "] ") + text);
    }

    static void end() {
        endSentence();
        if (wrong != 0) {
            System.out.println(wrong + " answers are not as due");
            System.exit(1);
        }
    }
}
