/** A wire on which a test sends pulses and whole frames to an object of its own. */
final class Wire {
    private static final int[] T = {0, 13, 7, 10, 14, 3, 9, 4, 1, 12, 6, 11, 15, 2, 8, 5};

    final PulseRows x;
    private final int unit;
    private long now = 0;

    /** The first edge is sent at time 0. */
    Wire(int tolerance, int unit) {
        this.x = new PulseRows(tolerance);
        this.unit = unit;
        x.edge(0);
    }

    int pulse(long length) {
        now += length;
        return x.edge(now);
    }

    int calibration() {
        return pulse(56L * unit);
    }

    int nibble(int value) {
        return pulse((12L + value) * unit);
    }

    int frame(int status, int data, int check) {
        calibration();
        nibble(status);
        for (int shift = 20; shift >= 0; shift -= 4) {
            nibble((data >> shift) & 15);
        }
        return nibble(check);
    }

    int rightFrame(int status, int data) {
        return frame(status, data, checkOf(data));
    }

    int wrongFrame(int status, int data) {
        return frame(status, data, checkOf(data) ^ 1);
    }

    /** Sends bits of a slow row as right frames, from bit number from down to bit number to; bit 15 begins. */
    void slowBits(int row, int from, int to) {
        for (int bit = from; bit >= to; bit--) {
            rightFrame((bit == 15 ? 8 : 0) + ((row >> bit & 1) == 1 ? 4 : 0), bit);
        }
    }

    static int checkOf(int data) {
        return checkOf(data, 6);
    }

    static int checkOf(int row, int count) {
        int c = 5;
        for (int k = count - 1; k >= 0; k--) {
            c = T[c] ^ ((row >> (4 * k)) & 15);
        }
        return T[c];
    }

    /** The sixteen bits of a slow row with its right check. */
    static int slowRow(int identity, int data) {
        int upper = identity * 256 + data;
        return upper * 16 + checkOf(upper, 3);
    }
}
