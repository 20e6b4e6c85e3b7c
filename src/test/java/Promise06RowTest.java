public final class Promise06RowTest {
    public static void main(String[] args) {
        howManyThereWere();
        thereIsNone();
        noSuchWhat();
        theFirstThatFits();
        statusDataAndRightness();
        whetherItsCheckWasRight();
        Due.end();
    }

    private static void howManyThereWere() {
        Due.sentence("6 row: \"i = -1 with what = 0: how many there were\"");
        Wire w = new Wire(20, 10);
        Due.is("row(-1, 0) at first", w.x.row(-1, 0), 0);
        w.rightFrame(3, 0x123456);
        Due.is("row(-1, 0) behind a right frame", w.x.row(-1, 0), 1);
        w.wrongFrame(3, 0x123456);
        Due.is("row(-1, 0) behind a wrong one", w.x.row(-1, 0), 2);
        w.calibration();
        for (int k = 0; k < 7; k++) {
            w.nibble(0);
        }
        Due.is("row(-1, 0) before an eighth nibble", w.x.row(-1, 0), 2);
        w.nibble(16);
        Due.is("row(-1, 0) behind a frame that is gone", w.x.row(-1, 0), 2);
        w.pulse(1);
        Due.is("row(-1, 0) behind a calibration that is not taken", w.x.row(-1, 0), 2);
    }

    private static void thereIsNone() {
        Due.sentence("6 row: \"-1 there is none\"");
        Wire w = new Wire(20, 10);
        for (int what = 0; what <= 2; what++) {
            Due.is("row(0, " + what + ") with none", w.x.row(0, what), -1);
        }
        for (int count = 1; count <= 3; count++) {
            w.rightFrame(count, 0x111111 * count);
            Due.is("row(" + (count - 1) + ", 0)", w.x.row(count - 1, 0), count);
            for (int what = 0; what <= 2; what++) {
                Due.is("row(" + count + ", " + what + ") with " + count, w.x.row(count, what), -1);
            }
        }
        for (int i : new int[] {-2, -3, 4, 5, 63, 64, 65, Integer.MIN_VALUE, Integer.MAX_VALUE}) {
            for (int what = 0; what <= 2; what++) {
                Due.is("row(" + i + ", " + what + ")", w.x.row(i, what), -1);
            }
        }
        // Of the number -1 only how many there were is known.
        Due.is("row(-1, 1)", w.x.row(-1, 1), -1);
        Due.is("row(-1, 2)", w.x.row(-1, 2), -1);
    }

    private static void noSuchWhat() {
        Due.sentence("6 row: \"-2 no such what\"");
        Wire w = new Wire(20, 10);
        w.rightFrame(3, 0x123456);
        w.wrongFrame(4, 0x654321);
        for (int i = 0; i < 2; i++) {
            for (int what : new int[] {-1, 3, -2, 4, 8, 256, Integer.MIN_VALUE, Integer.MAX_VALUE}) {
                Due.is("row(" + i + ", " + what + ")", w.x.row(i, what), -2);
            }
            Due.is("row(" + i + ", 0)", w.x.row(i, 0), 3 + i);
            Due.is("row(" + i + ", 2)", w.x.row(i, 2), 1 - i);
        }
    }

    private static void theFirstThatFits() {
        Due.sentence("Terms, REFUSALS: \"the first that fits: -1 an unknown number, -2 outside a range\"");
        Wire w = new Wire(20, 10);
        for (int what : new int[] {-1, 3, Integer.MIN_VALUE, Integer.MAX_VALUE}) {
            Due.is("row(0, " + what + ") with none", w.x.row(0, what), -1);
            Due.is("row(-1, " + what + ") with none", w.x.row(-1, what), -1);
        }
        w.rightFrame(3, 0x123456);
        for (int what : new int[] {-1, 3, Integer.MIN_VALUE, Integer.MAX_VALUE}) {
            Due.is("row(0, " + what + "): the number is known", w.x.row(0, what), -2);
            Due.is("row(1, " + what + "): both fit", w.x.row(1, what), -1);
            Due.is("row(-1, " + what + "): both fit", w.x.row(-1, what), -1);
            Due.is("row(-2, " + what + "): both fit", w.x.row(-2, what), -1);
        }
    }

    private static void statusDataAndRightness() {
        Due.sentence("6 row: \"what = 0 its STATUS, 1 its data (24 bits, the first nibble the highest)\"");
        Wire w = new Wire(20, 10);
        int[][] frames = {{3, 0x123456, 2, 1}, {15, 0xFFFFFF, 10, 1}, {15, 0xFFFFFF, 15, 0}, {0, 0, 5, 1}, {0, 0, 0, 0},
            {8, 0xF00000, 9, 1}, {1, 0x00000F, 0, 1}, {1, 0x00000F, 1, 0}};
        for (int[] f : frames) {
            w.frame(f[0], f[1], f[2]);
        }
        for (int i = 0; i < frames.length; i++) {
            Due.is("row(" + i + ", 0)", w.x.row(i, 0), frames[i][0]);
            Due.is("row(" + i + ", 1)", w.x.row(i, 1), frames[i][1]);
            Due.is("row(" + i + ", 2)", w.x.row(i, 2), frames[i][3]);
        }
    }

    private static void whetherItsCheckWasRight() {
        Due.sentence("Terms: \"its CHECK is right if that is what CHECKING its six data nibbles gives\"");
        // All six, zeros before too: 123456 gives 2, 000000 gives 5, 00F00F gives 6, FEDCBA gives 14.
        int[][] cases = {{0x123456, 2}, {0, 5}, {0x00F00F, 6}, {0xFEDCBA, 14}, {0xFFFFFF, 10}};
        for (int[] c : cases) {
            Wire w = new Wire(20, 10);
            for (int check = 0; check < 16; check++) {
                int faults = w.x.faults();
                w.frame(check, c[0], check);
                boolean right = check == c[1];
                String call = " of " + Integer.toHexString(c[0]) + " with the check " + check;
                Due.is("row(" + check + ", 2)" + call, w.x.row(check, 2), right ? 1 : 0);
                Due.is("faults()" + call, w.x.faults(), right ? faults : faults + 1);
            }
        }
    }
}
