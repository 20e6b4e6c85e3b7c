public final class Promise03NibbleTest {
    public static void main(String[] args) {
        Wire w = new Wire(20, 10);
        noneThere(w);
        w.calibration();
        for (int k = 0; k < 7; k++) {
            w.nibble(k);
            noneThere(w);
        }
        w.nibble(7);
        nibblesAre(w, 0, 0x123456, 7);

        w.rightFrame(9, 0xFEDCBA);
        nibblesAre(w, 9, 0xFEDCBA, Wire.checkOf(0xFEDCBA));

        w.wrongFrame(15, 0x00F00F);
        nibblesAre(w, 15, 0x00F00F, Wire.checkOf(0x00F00F) ^ 1);

        // A frame that goes on, or is gone, leaves the last one that was done.
        w.calibration();
        w.nibble(1);
        nibblesAre(w, 15, 0x00F00F, Wire.checkOf(0x00F00F) ^ 1);
        w.nibble(30);
        nibblesAre(w, 15, 0x00F00F, Wire.checkOf(0x00F00F) ^ 1);
        Due.end();
    }

    private static void noneThere(Wire w) {
        for (int i = -1; i <= 8; i++) {
            Due.nibbleThrows("nibble(" + i + ") with no frame done", w.x, i);
        }
    }

    private static void nibblesAre(Wire w, int status, int data, int check) {
        Due.is("nibble(0)", w.x.nibble(0), status);
        for (int i = 1; i <= 6; i++) {
            Due.is("nibble(" + i + ")", w.x.nibble(i), (data >> (24 - 4 * i)) & 15);
        }
        Due.is("nibble(7)", w.x.nibble(7), check);
        for (int i : new int[] {-1, 8, 9, -8, 32, Integer.MIN_VALUE, Integer.MAX_VALUE}) {
            Due.nibbleThrows("nibble(" + i + ")", w.x, i);
        }
    }
}
