public final class Promise08ParityTest {
    public static void main(String[] args) {
        PulseRows x = new PulseRows(20);
        int[] words = {0, 1, 2, 3, 7, -1, -2, Integer.MIN_VALUE, Integer.MAX_VALUE, 0x55555555, 0x55555554,
            0x80000001, 0x10101010, 0x01000000, 0x00010001, 123456789, -987654321};
        for (int word : words) {
            Due.is("parity(" + word + ")", x.parity(word), byHand(word));
        }
        for (int bit = 0; bit < 32; bit++) {
            Due.is("parity of bit " + bit + " alone", x.parity(1 << bit), 1);
            Due.is("parity of all but bit " + bit, x.parity(~(1 << bit)), 1);
        }
        Due.is("parity(0)", x.parity(0), 0);
        Due.is("parity(-1)", x.parity(-1), 0);
        Due.end();
    }

    private static int byHand(int word) {
        int odd = 0;
        for (int bit = 0; bit < 32; bit++) {
            odd ^= (word >>> bit) & 1;
        }
        return odd;
    }
}
