public final class Promise05SlowTest {
    public static void main(String[] args) {
        messagesComeInTurn();
        eachBitHasItsPlace();
        leadingZerosAreChecked();
        wrongRowIsAFault();
        framesOutsideARowDoNotCount();
        aBeginningBeginsAnew();
        wrongFramesMakeTheRowGoAway();
        otherFaultsLeaveTheRow();
        Due.end();
    }

    private static void messagesComeInTurn() {
        Wire w = new Wire(20, 3);
        Due.is("slow(-1)", w.x.slow(-1), 0);
        Due.is("slow(0)", w.x.slow(0), -1);
        int[] messages = {0x3A5, 0xF00, 0x0FF};
        for (int k = 0; k < 3; k++) {
            int row = Wire.slowRow(messages[k] >> 8, messages[k] & 255);
            w.slowBits(row, 15, 1);
            Due.is("slow(-1) before the sixteenth", w.x.slow(-1), k);
            Due.is("slow(" + k + ") before the sixteenth", w.x.slow(k), -1);
            w.slowBits(row, 0, 0);
            Due.is("slow(-1)", w.x.slow(-1), k + 1);
            Due.is("slow(" + k + ")", w.x.slow(k), messages[k]);
        }
        Due.is("slow(0)", w.x.slow(0), 0x3A5);
        Due.is("slow(1)", w.x.slow(1), 0xF00);
        for (int i : new int[] {-2, 3, 4, 5, 100, Integer.MIN_VALUE, Integer.MAX_VALUE}) {
            Due.is("slow(" + i + ")", w.x.slow(i), -1);
        }
        Due.is("faults()", w.x.faults(), 0);
        Due.is("row(-1, 0)", w.x.row(-1, 0), 48);
    }

    private static void eachBitHasItsPlace() {
        for (int bit = 0; bit < 12; bit++) {
            messageIs(1 << bit);
        }
        messageIs(0xFFF);
        messageIs(0xABC);
    }

    private static void leadingZerosAreChecked() {
        messageIs(0);
        messageIs(1);
        messageIs(0x23);
    }

    private static void messageIs(int message) {
        Wire w = new Wire(20, 3);
        w.slowBits(Wire.slowRow(message >> 8, message & 255), 15, 0);
        Due.is("slow(-1) behind " + message, w.x.slow(-1), 1);
        Due.is("slow(0) behind " + message, w.x.slow(0), message);
        Due.is("faults() behind " + message, w.x.faults(), 0);
    }

    private static void wrongRowIsAFault() {
        int right = Wire.slowRow(7, 0x5C);
        for (int bit = 0; bit < 16; bit++) {
            Wire w = new Wire(20, 3);
            w.slowBits(right ^ (1 << bit), 15, 1);
            Due.is("faults() before the sixteenth", w.x.faults(), 0);
            w.slowBits(right ^ (1 << bit), 0, 0);
            Due.is("faults() with bit " + bit + " wrong", w.x.faults(), 1);
            Due.is("slow(-1) with bit " + bit + " wrong", w.x.slow(-1), 0);
            Due.is("slow(0) with bit " + bit + " wrong", w.x.slow(0), -1);
            w.slowBits(right, 15, 0);
            Due.is("slow(0) behind a right row", w.x.slow(0), 0x75C);
        }
    }

    private static void framesOutsideARowDoNotCount() {
        Wire w = new Wire(20, 3);
        w.slowBits(0xFFFF, 9, 7);
        int row = Wire.slowRow(2, 0x91);
        w.slowBits(row, 15, 0);
        Due.is("slow(0)", w.x.slow(0), 0x291);
        // The row has ended: sixteen more bits without a beginning make none.
        for (int k = 0; k < 17; k++) {
            w.rightFrame(4, k);
        }
        Due.is("slow(-1)", w.x.slow(-1), 1);
        Due.is("faults()", w.x.faults(), 0);
        // Bits 1 and 0 of a status say nothing.
        for (int bit = 15; bit >= 0; bit--) {
            w.rightFrame((bit == 15 ? 8 : 0) + ((row >> bit & 1) == 1 ? 4 : 0) + (bit & 3), bit);
        }
        Due.is("slow(1)", w.x.slow(1), 0x291);
    }

    private static void aBeginningBeginsAnew() {
        int row = Wire.slowRow(12, 0x3E);
        for (int sent = 1; sent <= 15; sent++) {
            Wire w = new Wire(20, 3);
            w.slowBits(0xFFFF, 15, 16 - sent);
            w.slowBits(row, 15, 1);
            Due.is("slow(-1) before the sixteenth anew", w.x.slow(-1), 0);
            w.slowBits(row, 0, 0);
            Due.is("slow(0) begun anew behind " + sent, w.x.slow(0), 0xC3E);
            Due.is("faults() begun anew behind " + sent, w.x.faults(), 0);
        }
    }

    private static void wrongFramesMakeTheRowGoAway() {
        int row = Wire.slowRow(5, 0xA0);
        for (int status : new int[] {0, 4, 8, 12}) {
            Wire w = new Wire(20, 3);
            w.slowBits(row, 15, 5);
            w.wrongFrame(status, 1);
            w.slowBits(row, 4, 0);
            for (int k = 0; k < 16; k++) {
                w.rightFrame(0, k);
            }
            Due.is("slow(-1) behind a wrong frame", w.x.slow(-1), 0);
            Due.is("faults() behind a wrong frame", w.x.faults(), 1);
            w.slowBits(row, 15, 0);
            Due.is("slow(0) behind a new beginning", w.x.slow(0), 0x5A0);
        }
    }

    private static void otherFaultsLeaveTheRow() {
        int row = Wire.slowRow(5, 0xA0);
        Wire w = new Wire(20, 3);
        w.slowBits(row, 15, 9);
        w.pulse(1);
        w.calibration();
        w.nibble(8);
        w.nibble(20);
        w.x.turn(true, true);
        w.slowBits(row, 8, 0);
        Due.is("faults()", w.x.faults(), 3);
        Due.is("slow(0) though frames were gone", w.x.slow(0), 0x5A0);
    }
}
