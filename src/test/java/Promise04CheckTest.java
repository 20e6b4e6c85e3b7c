public final class Promise04CheckTest {
    public static void main(String[] args) {
        zeroIsOfNone();
        fromTheHighestThatIsNotZeroOn();
        upToEightNibbles();
        checkingGoesByItsRow();
        nothingChanges();
        Due.end();
    }

    private static void zeroIsOfNone() {
        Due.sentence("4 check: \"(0: of none)\"");
        PulseRows x = new PulseRows(20);
        // Of none: T(5). One nibble of 0 would give T(T(5)), 10.
        Due.is("check(0)", x.check(0), 3);
        Due.is("check(1)", x.check(1), 7);
    }

    private static void fromTheHighestThatIsNotZeroOn() {
        Due.sentence("4 check: \"the number's nibbles from the highest one that is not 0 on\"");
        PulseRows x = new PulseRows(20);
        // The smallest and the largest number of each count of nibbles.
        int[] smallest = {7, 4, 14, 8, 1, 13, 2, 7};
        int[] largest = {15, 0, 5, 6, 12, 10, 3, 15};
        for (int count = 1; count <= 8; count++) {
            int first = 1 << (4 * count - 4);
            int last = -1 >>> (32 - 4 * count);
            Due.is("check of " + Integer.toHexString(first), x.check(first), smallest[count - 1]);
            Due.is("check of " + Integer.toHexString(last), x.check(last), largest[count - 1]);
        }
        // Zeros behind the highest one count, zeros before it do not.
        Due.is("check(0x123)", x.check(0x123), 0);
        Due.is("check(0x0123)", x.check(0x0123), 0);
        Due.is("check(0x10)", x.check(0x10), 4);
        Due.is("check(0x123456)", x.check(0x123456), 2);
    }

    private static void upToEightNibbles() {
        Due.sentence("4 check: \"a row of up to eight nibbles\"");
        PulseRows x = new PulseRows(20);
        Due.is("check of seven, 0xFFFFFFF", x.check(0xFFFFFFF), 3);
        Due.is("check of eight, 0x10000000", x.check(0x10000000), 7);
        Due.is("check of eight, 0x7FFFFFFF", x.check(Integer.MAX_VALUE), 14);
        Due.is("check of eight, 0x80000000", x.check(Integer.MIN_VALUE), 11);
        Due.is("check of eight, 0xFFFFFFFF", x.check(-1), 15);
    }

    private static void checkingGoesByItsRow() {
        Due.sentence("Terms, CHECKING: \"c = 5, then for each nibble n in turn c = T(c) xor n; at last c = T(c)\"");
        PulseRows x = new PulseRows(20);
        // One nibble n gives T(3 xor n), so the fifteen of them go through T but for T(3).
        int[] ofOne = {7, 13, 0, 4, 9, 3, 14, 11, 6, 12, 1, 5, 8, 2, 15};
        for (int n = 1; n <= 15; n++) {
            Due.is("check(" + n + ")", x.check(n), ofOne[n - 1]);
        }
        // 0x30: T(5) xor 3 is 0, T(0) xor 0 is 0, T(0) is 0; 0x33: T(0) xor 3 is 3, T(3) is 10.
        Due.is("check(0x30)", x.check(0x30), 0);
        Due.is("check(0x33)", x.check(0x33), 10);
    }

    private static void nothingChanges() {
        Due.sentence("4 check: a number by itself, no frame");
        Wire w = new Wire(20, 10);
        w.calibration();
        w.nibble(1);
        w.x.check(0x123456);
        w.x.check(-1);
        Due.is("edge: the frame goes on", w.nibble(2), 2);
        Due.is("faults()", w.x.faults(), 0);
        Due.is("row(-1, 0)", w.x.row(-1, 0), 0);
    }
}
