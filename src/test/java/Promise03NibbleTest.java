public final class Promise03NibbleTest {
    public static void main(String[] args) {
        beforeItsEight();
        behindItsEight();
        ifThereWasNone();
        ofTheLastFrameThatWasDone();
        Due.end();
    }

    private static void beforeItsEight() {
        Due.sentence("3 nibble: \"ArrayIndexOutOfBoundsException before\" its eight");
        Wire w = new Wire(20, 10);
        w.rightFrame(9, 0xFEDCBA);
        for (int i : new int[] {-1, -2, -7, -8, -9, -32, Integer.MIN_VALUE}) {
            Due.nibbleThrows("nibble(" + i + ")", w.x, i);
        }
        Due.is("nibble(0)", w.x.nibble(0), 9);
    }

    private static void behindItsEight() {
        Due.sentence("3 nibble: ArrayIndexOutOfBoundsException \"behind its eight\"");
        Wire w = new Wire(20, 10);
        w.rightFrame(9, 0xFEDCBA);
        w.rightFrame(1, 0x123456);
        for (int i : new int[] {8, 9, 15, 16, 32, 64, Integer.MAX_VALUE}) {
            Due.nibbleThrows("nibble(" + i + ")", w.x, i);
        }
        Due.is("nibble(7)", w.x.nibble(7), 2);
    }

    private static void ifThereWasNone() {
        Due.sentence("3 nibble: ArrayIndexOutOfBoundsException \"if there was none\"");
        PulseRows x = new PulseRows(20);
        noneThere("before the first edge", x);
        Wire w = new Wire(20, 10);
        noneThere("behind the first edge", w.x);
        w.calibration();
        noneThere("behind a calibration", w.x);
        for (int k = 0; k < 7; k++) {
            w.nibble(k);
            noneThere("behind nibble " + k, w.x);
        }
        w.nibble(20);
        noneThere("behind a frame that is gone", w.x);
        w.calibration();
        for (int k = 0; k < 7; k++) {
            w.nibble(k);
        }
        noneThere("before the eighth", w.x);
        w.nibble(7);
        Due.is("nibble(0) behind the eighth", w.x.nibble(0), 0);
        Due.is("nibble(7) behind the eighth", w.x.nibble(7), 7);
    }

    private static void noneThere(String when, PulseRows x) {
        for (int i = -1; i <= 8; i++) {
            Due.nibbleThrows("nibble(" + i + ") " + when, x, i);
        }
    }

    private static void ofTheLastFrameThatWasDone() {
        Due.sentence("3 nibble: \"NIBBLE i of the last frame that was DONE\"");
        Wire w = new Wire(20, 10);
        w.rightFrame(0, 0x123456);
        nibblesAre(w, 0, 1, 2, 3, 4, 5, 6, 2);
        w.rightFrame(9, 0xFEDCBA);
        nibblesAre(w, 9, 15, 14, 13, 12, 11, 10, 14);
        w.frame(15, 0x00F00F, 7);
        nibblesAre(w, 15, 0, 0, 15, 0, 0, 15, 7);
        w.frame(15, 0xFFFFFF, 15);
        nibblesAre(w, 15, 15, 15, 15, 15, 15, 15, 15);
        w.frame(0, 0, 0);
        nibblesAre(w, 0, 0, 0, 0, 0, 0, 0, 0);
        w.frame(8, 0x700000, 1);
        // A frame that goes on, or is gone, or a calibration that is not taken leaves the last one that was done.
        w.calibration();
        nibblesAre(w, 8, 7, 0, 0, 0, 0, 0, 1);
        for (int k = 0; k < 7; k++) {
            w.nibble(5);
            nibblesAre(w, 8, 7, 0, 0, 0, 0, 0, 1);
        }
        w.nibble(30);
        nibblesAre(w, 8, 7, 0, 0, 0, 0, 0, 1);
        w.pulse(1);
        nibblesAre(w, 8, 7, 0, 0, 0, 0, 0, 1);
    }

    private static void nibblesAre(Wire w, int... due) {
        for (int i = 0; i < 8; i++) {
            Due.is("nibble(" + i + ")", w.x.nibble(i), due[i]);
        }
    }
}
