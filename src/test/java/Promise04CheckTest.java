public final class Promise04CheckTest {
    public static void main(String[] args) {
        PulseRows x = new PulseRows(20);
        Due.is("check(0)", x.check(0), 3);
        Due.is("check(0x123)", x.check(0x123), 0);
        Due.is("check(0x10)", x.check(0x10), 4);
        Due.is("check(-1)", x.check(-1), 15);
        Due.is("check(0x123456)", x.check(0x123456), 2);
        // One nibble n gives T(3 xor n).
        int[] ofOne = {7, 13, 0, 4, 9, 3, 14, 11, 6, 12, 1, 5, 8, 2, 15};
        for (int n = 1; n <= 15; n++) {
            Due.is("check(" + n + ")", x.check(n), ofOne[n - 1]);
        }
        for (int count = 1; count <= 8; count++) {
            int lowest = 1 << (4 * count - 4);
            int highest = -1 >>> (32 - 4 * count);
            Due.is("check(" + lowest + ")", x.check(lowest), Wire.checkOf(lowest, count));
            Due.is("check(" + highest + ")", x.check(highest), Wire.checkOf(highest, count));
        }
        Due.is("check(MIN)", x.check(Integer.MIN_VALUE), Wire.checkOf(Integer.MIN_VALUE, 8));
        Due.is("check(MAX)", x.check(Integer.MAX_VALUE), Wire.checkOf(Integer.MAX_VALUE, 8));
        Due.is("faults()", x.faults(), 0);
        Due.end();
    }
}
