import java.util.Random;

/** Behind its 512th call an object answers what it likes, but throws no more than the document says. */
public final class NeverThrowsTest {
    public static void main(String[] args) {
        Random random = new Random(7);
        Wire w = new Wire(20, 3);
        for (int k = 0; k < 300; k++) {
            w.slowBits(Wire.slowRow(k & 15, k & 255), 15, 0);
            w.wrongFrame(k & 15, k);
            w.x.turn(random.nextBoolean(), random.nextBoolean());
            w.x.bounce(random.nextBoolean(), random.nextLong());
            w.x.slow(random.nextInt(700) - 10);
            w.x.row(random.nextInt(7000) - 10, random.nextInt(4));
            w.x.nibble(random.nextInt(8));
            w.x.calibrate(random.nextLong() | 1);
            w.x.check(random.nextInt());
            w.x.parity(random.nextInt());
            w.x.faults();
            w.x.marked();
        }
    }
}
