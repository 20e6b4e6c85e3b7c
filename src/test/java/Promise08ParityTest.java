public final class Promise08ParityTest {
    public static void main(String[] args) {
        whetherItIsOdd();
        wordsOf32Bits();
        wordsBelowZero();
        Due.end();
    }

    private static void whetherItIsOdd() {
        Due.sentence("8 parity: \"Whether the number of 1 bits\" is odd: \"1, or 0\"");
        PulseRows x = new PulseRows(20);
        int[][] cases = {{0, 0}, {1, 1}, {2, 1}, {3, 0}, {4, 1}, {5, 0}, {6, 0}, {7, 1}, {8, 1}, {15, 0}, {16, 1},
            {31, 1}, {255, 0}, {256, 1}, {511, 1}, {65535, 0}, {65536, 1}, {0x55555555, 0}, {0x55555554, 1}};
        for (int[] c : cases) {
            Due.is("parity(" + c[0] + ")", x.parity(c[0]), c[1]);
        }
    }

    private static void wordsOf32Bits() {
        Due.sentence("8 parity: \"a word (32 bits)\"");
        PulseRows x = new PulseRows(20);
        int lowest = 0;
        for (int bit = 0; bit < 32; bit++) {
            Due.is("parity of bit " + bit + " alone", x.parity(1 << bit), 1);
            Due.is("parity of all but bit " + bit, x.parity(~(1 << bit)), 1);
            lowest |= 1 << bit;
            Due.is("parity of the lowest " + (bit + 1) + " bits", x.parity(lowest), (bit + 1) % 2);
        }
        Due.is("parity(2147483647), 31 bits", x.parity(Integer.MAX_VALUE), 1);
    }

    private static void wordsBelowZero() {
        Due.sentence("8 parity: a word of \"32 bits\", also one below 0");
        PulseRows x = new PulseRows(20);
        Due.is("parity(-1), 32 bits", x.parity(-1), 0);
        Due.is("parity(-2), 31 bits", x.parity(-2), 1);
        Due.is("parity(-2147483648), 1 bit", x.parity(Integer.MIN_VALUE), 1);
        Due.is("parity(-2147483647), 2 bits", x.parity(Integer.MIN_VALUE + 1), 0);
        Due.is("parity(0xFF000000)", x.parity(0xFF000000), 0);
        Due.is("parity(0xFE000000)", x.parity(0xFE000000), 1);
        Due.is("faults()", x.faults(), 0);
    }
}
