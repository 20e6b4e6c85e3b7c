public final class Promise06RowTest {
    public static void main(String[] args) {
        Wire w = new Wire(20, 10);
        Due.is("row(-1, 0) at first", w.x.row(-1, 0), 0);
        Due.is("row(0, 0) at first", w.x.row(0, 0), -1);
        Due.is("row(0, 3): -1 comes before -2", w.x.row(0, 3), -1);
        w.rightFrame(3, 0x123456);
        w.wrongFrame(15, 0xFFFFFF);
        w.calibration();
        w.nibble(40);
        w.rightFrame(0, 0);
        frameIs(w, 0, 3, 0x123456, 1);
        frameIs(w, 1, 15, 0xFFFFFF, 0);
        frameIs(w, 2, 0, 0, 1);
        Due.is("row(-1, 0)", w.x.row(-1, 0), 3);
        wrongNumbers(w);
        everyWrongCheckIsWrong();
        asManyAsTheCallsAllow();
        Due.end();
    }

    private static void frameIs(Wire w, int i, int status, int data, int right) {
        Due.is("row(" + i + ", 0)", w.x.row(i, 0), status);
        Due.is("row(" + i + ", 1)", w.x.row(i, 1), data);
        Due.is("row(" + i + ", 2)", w.x.row(i, 2), right);
        for (int what : new int[] {-1, 3, 4, Integer.MIN_VALUE, Integer.MAX_VALUE}) {
            Due.is("row(" + i + ", " + what + ")", w.x.row(i, what), -2);
        }
    }

    private static void wrongNumbers(Wire w) {
        for (int i : new int[] {3, 4, 100, -2, Integer.MIN_VALUE, Integer.MAX_VALUE}) {
            for (int what = -1; what <= 3; what++) {
                Due.is("row(" + i + ", " + what + ")", w.x.row(i, what), -1);
            }
        }
        for (int what : new int[] {-1, 1, 2, 3, Integer.MIN_VALUE, Integer.MAX_VALUE}) {
            Due.is("row(-1, " + what + ")", w.x.row(-1, what), -1);
        }
    }

    private static void everyWrongCheckIsWrong() {
        int right = Wire.checkOf(0xA5C3F0);
        Wire w = new Wire(20, 10);
        for (int check = 0; check < 16; check++) {
            w.frame(2, 0xA5C3F0, check);
            Due.is("row(" + check + ", 2)", w.x.row(check, 2), check == right ? 1 : 0);
        }
        Due.is("faults()", w.x.faults(), 15);
    }

    /** 1 + 56 * 9 edges are 505 of the 512 calls. */
    private static void asManyAsTheCallsAllow() {
        Wire w = new Wire(20, 10);
        for (int k = 0; k < 56; k++) {
            w.rightFrame(k & 7, 0x10101 * k);
        }
        Due.is("row(-1, 0)", w.x.row(-1, 0), 56);
        Due.is("row(55, 0)", w.x.row(55, 0), 7);
        Due.is("row(55, 1)", w.x.row(55, 1), 0x10101 * 55);
        Due.is("row(55, 2)", w.x.row(55, 2), 1);
        Due.is("row(56, 0)", w.x.row(56, 0), -1);
        Due.is("nibble(1)", w.x.nibble(1), 3);
    }
}
