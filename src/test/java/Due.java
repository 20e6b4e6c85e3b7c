import java.util.function.IntSupplier;

/**
 * Counts the answers that are not the ones due, sentence by sentence of the document,
 * and ends a test with exit code 1 if there was one.
 */
final class Due {
    private static int wrong = 0;
    private static String sentence = null;
    private static int wrongBefore = 0;
    private static int looks = 0;

    private Due() {
    }

    /** The answers from here on hold these words of the document; the promise or 'Terms' goes before them. */
    static void sentence(String words) {
        endSentence();
        sentence = words;
        wrongBefore = wrong;
        looks = 0;
    }

    private static void endSentence() {
        if (sentence == null) {
            return;
        }
        if (looks == 0) {
            note("nothing was looked at");
        }
        System.out.println((wrong == wrongBefore ? "  holds   " : "  BROKEN  ") + sentence);
        sentence = null;
    }

    static void is(String call, long got, long want) {
        looks++;
        if (got != want) {
            note(call + " answered " + got + ", due is " + want);
        }
    }

    static void is(String call, boolean got, boolean want) {
        looks++;
        if (got != want) {
            note(call + " answered " + got + ", due is " + want);
        }
    }

    static void nibbleThrows(String call, PulseRows x, int i) {
        callThrows(call, () -> x.nibble(i), ArrayIndexOutOfBoundsException.class);
    }

    static void calibrateThrows(String call, PulseRows x, long length) {
        callThrows(call, () -> x.calibrate(length), ArithmeticException.class);
    }

    static void callThrows(String call, IntSupplier asked, Class<? extends RuntimeException> want) {
        looks++;
        try {
            note(call + " answered " + asked.getAsInt() + ", due is " + want.getName());
        } catch (RuntimeException got) {
            if (got.getClass() != want) {
                note(call + " throws " + got.getClass().getName() + ", due is " + want.getName());
            }
        }
    }

    static void note(String text) {
        wrong++;
        System.out.println((sentence == null ? "" : "[" + sentence + "] ") + text);
    }

    static void end() {
        endSentence();
        if (wrong != 0) {
            System.out.println(wrong + " answers are not as due");
            System.exit(1);
        }
    }
}
