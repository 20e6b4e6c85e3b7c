public final class Promise05SlowTest {
    public static void main(String[] args) {
        howManyThereWere();
        thereIsNone();
        identityAndData();
        theFirstOneTheHighest();
        withTheSixteenth();
        theLastFourTheirCheck();
        otherwiseAFault();
        aBeginningInBetween();
        wrongCheckMakesTheRowGoAway();
        otherFaultsLeaveTheRow();
        framesOutsideARow();
        bitsThreeAndTwo();
        Due.end();
    }

    private static void howManyThereWere() {
        Due.sentence("5 slow: \"i = -1: how many there were\"");
        Wire w = new Wire(20, 3);
        Due.is("slow(-1) at first", w.x.slow(-1), 0);
        for (int k = 0; k < 3; k++) {
            int row = Wire.slowRow(k, 0x11 * k);
            w.slowBits(row, 15, 1);
            Due.is("slow(-1) before the sixteenth", w.x.slow(-1), k);
            w.slowBits(row, 0, 0);
            Due.is("slow(-1) behind the sixteenth", w.x.slow(-1), k + 1);
        }
        Due.is("faults()", w.x.faults(), 0);
    }

    private static void thereIsNone() {
        Due.sentence("5 slow: \"-1 there is none\"");
        Wire w = new Wire(20, 3);
        for (int i : new int[] {0, 1, -2, -3, 4, Integer.MIN_VALUE, Integer.MAX_VALUE}) {
            Due.is("slow(" + i + ") with none", w.x.slow(i), -1);
        }
        int[] messages = {0x3A5, 0xF00, 0x0FF};
        for (int k = 0; k < 3; k++) {
            Due.is("slow(" + k + ") with " + k, w.x.slow(k), -1);
            w.slowBits(Wire.slowRow(messages[k] >> 8, messages[k] & 255), 15, 0);
            Due.is("slow(" + k + ") with " + (k + 1), w.x.slow(k), messages[k]);
            Due.is("slow(" + (k + 1) + ") with " + (k + 1), w.x.slow(k + 1), -1);
        }
        Due.is("slow(0) with 3", w.x.slow(0), 0x3A5);
        Due.is("slow(1) with 3", w.x.slow(1), 0xF00);
        for (int i : new int[] {3, 4, 5, 16, -2, -3, Integer.MIN_VALUE, Integer.MAX_VALUE}) {
            Due.is("slow(" + i + ") with 3", w.x.slow(i), -1);
        }
    }

    private static void identityAndData() {
        Due.sentence("5 slow: \"256 times its identity and its data\"");
        messageIs(0, 0, 0);
        messageIs(0, 1, 1);
        messageIs(0, 255, 255);
        messageIs(1, 0, 256);
        messageIs(15, 0, 3840);
        messageIs(15, 255, 4095);
        messageIs(10, 0x5C, 2652);
    }

    private static void messageIs(int identity, int data, int due) {
        Wire w = new Wire(20, 3);
        w.slowBits(Wire.slowRow(identity, data), 15, 0);
        String call = " behind identity " + identity + ", data " + data;
        Due.is("slow(-1)" + call, w.x.slow(-1), 1);
        Due.is("slow(0)" + call, w.x.slow(0), due);
        Due.is("faults()" + call, w.x.faults(), 0);
    }

    private static void theFirstOneTheHighest() {
        Due.sentence("Terms, SLOW CHANNEL: \"each next one adds one, the first one the highest\"");
        for (int bit = 0; bit < 12; bit++) {
            messageIs((1 << bit) >> 8, (1 << bit) & 255, 1 << bit);
        }
    }

    private static void withTheSixteenth() {
        Due.sentence("Terms, SLOW CHANNEL: \"With the sixteenth\"");
        Wire w = new Wire(20, 3);
        // 0x000 has the check 9: fifteen bits of it are no message yet, and the sixteenth is its lowest.
        w.slowBits(0x0009, 15, 1);
        Due.is("slow(-1) behind the fifteenth", w.x.slow(-1), 0);
        Due.is("slow(0) behind the fifteenth", w.x.slow(0), -1);
        w.calibration();
        w.nibble(4);
        for (int k = 0; k < 6; k++) {
            w.nibble(0);
        }
        Due.is("slow(-1): the sixteenth is not DONE yet", w.x.slow(-1), 0);
        Due.is("edge: the check of the sixteenth", w.nibble(5), 8);
        Due.is("slow(-1) behind the sixteenth", w.x.slow(-1), 1);
        Due.is("slow(0) behind the sixteenth", w.x.slow(0), 0);
        // The seventeenth belongs to no row.
        w.rightFrame(4, 0);
        Due.is("slow(-1) behind the seventeenth", w.x.slow(-1), 1);
        Due.is("faults()", w.x.faults(), 0);
    }

    private static void theLastFourTheirCheck() {
        Due.sentence("Terms, SLOW CHANNEL: \"their check: what CHECKING the three upper nibbles gives\"");
        // All three, zeros too: 000 gives 9, 001 gives 4, 023 gives 7, and 3A5 gives 10.
        int[][] rows = {{0x0009, 0x000}, {0x0014, 0x001}, {0x0237, 0x023}, {0x3A5A, 0x3A5}, {0xFFF5, 0xFFF}};
        for (int[] row : rows) {
            for (int check = 0; check < 16; check++) {
                Wire w = new Wire(20, 3);
                int sent = (row[0] & 0xFFF0) | check;
                boolean right = sent == row[0];
                w.slowBits(sent, 15, 0);
                String call = " behind " + Integer.toHexString(sent);
                Due.is("slow(-1)" + call, w.x.slow(-1), right ? 1 : 0);
                Due.is("slow(0)" + call, w.x.slow(0), right ? row[1] : -1);
                Due.is("faults()" + call, w.x.faults(), right ? 0 : 1);
            }
        }
    }

    private static void otherwiseAFault() {
        Due.sentence("Terms, SLOW CHANNEL: \"a MESSAGE, if that is right, otherwise a FAULT\"");
        int right = Wire.slowRow(7, 0x5C);
        for (int bit = 0; bit < 16; bit++) {
            Wire w = new Wire(20, 3);
            w.slowBits(right ^ (1 << bit), 15, 1);
            Due.is("faults() before the sixteenth", w.x.faults(), 0);
            w.slowBits(right ^ (1 << bit), 0, 0);
            Due.is("faults() with bit " + bit + " wrong", w.x.faults(), 1);
            Due.is("slow(-1) with bit " + bit + " wrong", w.x.slow(-1), 0);
            Due.is("slow(0) with bit " + bit + " wrong", w.x.slow(0), -1);
            w.rightFrame(0, 0);
            Due.is("faults(): the wrong row is over", w.x.faults(), 1);
            w.slowBits(right, 15, 0);
            Due.is("slow(0) behind a right row", w.x.slow(0), 0x75C);
            Due.is("faults() behind a right row", w.x.faults(), 1);
        }
    }

    private static void aBeginningInBetween() {
        Due.sentence("Terms, SLOW CHANNEL: \"one with a beginning in between begins anew\"");
        int row = Wire.slowRow(12, 0x3E);
        // Behind the first frame of a row, and as late as its sixteenth one.
        for (int sent = 1; sent <= 15; sent++) {
            Wire w = new Wire(20, 3);
            w.slowBits(0xFFFF, 15, 16 - sent);
            w.slowBits(row, 15, 1);
            Due.is("slow(-1) before the sixteenth anew", w.x.slow(-1), 0);
            Due.is("faults() before the sixteenth anew", w.x.faults(), 0);
            w.slowBits(row, 0, 0);
            Due.is("slow(0) begun anew behind " + sent, w.x.slow(0), 0xC3E);
            Due.is("faults() begun anew behind " + sent, w.x.faults(), 0);
        }
        // With the seventeenth the row before it has ended, so nothing is lost.
        Wire w = new Wire(20, 3);
        w.slowBits(row, 15, 0);
        w.slowBits(row, 15, 15);
        Due.is("slow(-1) with a beginning behind the sixteenth", w.x.slow(-1), 1);
        w.slowBits(row, 14, 0);
        Due.is("slow(-1)", w.x.slow(-1), 2);
    }

    private static void wrongCheckMakesTheRowGoAway() {
        Due.sentence("Terms, SLOW CHANNEL: \"Frames with a wrong CHECK make the row go away\"");
        int row = Wire.slowRow(5, 0xA0);
        for (int status : new int[] {0, 4, 8, 12}) {
            for (int sent : new int[] {1, 11, 15}) {
                Wire w = new Wire(20, 3);
                w.slowBits(row, 15, 16 - sent);
                w.wrongFrame(status, 1);
                w.slowBits(row, 15 - sent, 0);
                for (int k = 0; k < 16; k++) {
                    w.rightFrame(0, k);
                }
                String call = " with a wrong frame behind " + sent;
                Due.is("slow(-1)" + call, w.x.slow(-1), 0);
                Due.is("faults()" + call, w.x.faults(), 1);
                w.slowBits(row, 15, 0);
                Due.is("slow(0) behind a new beginning", w.x.slow(0), 0x5A0);
            }
        }
        // Behind the sixteenth there is no row to go, and the message stays.
        Wire w = new Wire(20, 3);
        w.slowBits(row, 15, 0);
        w.wrongFrame(0, 1);
        Due.is("slow(-1) with a wrong frame behind the sixteenth", w.x.slow(-1), 1);
        Due.is("slow(0) with a wrong frame behind the sixteenth", w.x.slow(0), 0x5A0);
    }

    private static void otherFaultsLeaveTheRow() {
        Due.sentence("Terms, SLOW CHANNEL: \"of each frame that is DONE with a right CHECK\"");
        // So frames that are gone, and other faults, leave the row.
        int row = Wire.slowRow(5, 0xA0);
        Wire w = new Wire(20, 3);
        w.slowBits(row, 15, 9);
        w.pulse(1);
        w.calibration();
        w.nibble(8);
        w.nibble(20);
        w.x.turn(true, true);
        w.slowBits(row, 8, 0);
        Due.is("faults()", w.x.faults(), 3);
        Due.is("slow(0) though frames were gone", w.x.slow(0), 0x5A0);
    }

    private static void framesOutsideARow() {
        Due.sentence("Terms, SLOW CHANNEL: \"A frame with a beginning begins a row of sixteen bits\"");
        Wire w = new Wire(20, 3);
        for (int k = 0; k < 17; k++) {
            w.rightFrame(4, k);
        }
        Due.is("slow(-1): no row without a beginning", w.x.slow(-1), 0);
        Due.is("faults(): no row without a beginning", w.x.faults(), 0);
        w.slowBits(Wire.slowRow(2, 0x91), 15, 0);
        Due.is("slow(0)", w.x.slow(0), 0x291);
        for (int k = 0; k < 17; k++) {
            w.rightFrame(0, k);
        }
        Due.is("slow(-1): none behind its end either", w.x.slow(-1), 1);
        Due.is("faults(): none behind its end either", w.x.faults(), 0);
    }

    private static void bitsThreeAndTwo() {
        Due.sentence("Terms, SLOW CHANNEL: \"the STATUS has bit 3 (8), a beginning, and bit 2 (4), a data bit\"");
        int row = Wire.slowRow(2, 0x91);
        for (int low = 0; low < 4; low++) {
            Wire w = new Wire(20, 3);
            for (int bit = 15; bit >= 0; bit--) {
                w.rightFrame((bit == 15 ? 8 : 0) + ((row >> bit & 1) == 1 ? 4 : 0) + low, bit);
            }
            Due.is("slow(0) with " + low + " in bits 1 and 0", w.x.slow(0), 0x291);
        }
    }
}
