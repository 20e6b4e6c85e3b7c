import java.util.Random;

/** Mixed runs of just 512 calls, each answer against the model's. The seeds are fixed, so a run is always the same. */
public final class ModelTest {
    private static final int RUNS = 3000;
    private static final int CALLS = 512;
    /** The last calls of a run only look, so that what its edges brought about is seen. */
    private static final int LAST_LOOKS = 40;
    private static final int[] NUMBERS = {0, 1, -1, 2, 3, 7, 8, 9, 15, 16, 55, 56, 57, 64, -2, Integer.MIN_VALUE,
        Integer.MAX_VALUE};
    private static final long[] LENGTHS = {0, 1, -1, 55, 56, 57, 55999, 56000, 56001, 1L << 60, (1L << 60) + 1,
        Long.MIN_VALUE, Long.MAX_VALUE, (1L << 32) + 560, 329406144173384865L};

    private final Random random;
    private final PulseRows x;
    private final Model model;
    private final String run;
    private final int carelessness;
    private final int percent;
    private long now = 0;
    private int data = 0;
    private int slowRow = 0;
    private int slowBit = 15;
    private long switchTime = 0;
    private int wheel = 0;
    private int calls = 0;

    private ModelTest(long seed) {
        random = new Random(seed);
        int tolerance = random.nextInt(40) - 4;
        x = new PulseRows(tolerance);
        model = new Model(tolerance);
        run = "seed " + seed + ", tolerance " + tolerance + ": ";
        // Some runs are nearly faultless, so that whole slow rows come to be; others fault all the time.
        carelessness = new int[] {0, 2, 20, 120}[random.nextInt(4)];
        percent = tolerance < 1 || tolerance > 30 ? 20 : tolerance;
    }

    public static void main(String[] args) {
        for (int seed = 0; seed < RUNS; seed++) {
            ModelTest test = new ModelTest(seed);
            int otherCalls = new int[] {1, 5, 50}[seed % 3];
            while (test.calls < CALLS) {
                if (test.calls >= CALLS - LAST_LOOKS) {
                    test.look();
                } else if (test.random.nextInt(100) < otherCalls) {
                    test.otherCall();
                } else {
                    test.nextEdge();
                }
            }
        }
        Due.end();
    }

    private boolean careless() {
        return random.nextInt(1000) < carelessness;
    }

    private int number() {
        return random.nextBoolean() ? NUMBERS[random.nextInt(NUMBERS.length)] : random.nextInt();
    }

    private long length() {
        return random.nextBoolean() ? LENGTHS[random.nextInt(LENGTHS.length)] : nextCalibration();
    }

    private void nextEdge() {
        if (careless()) {
            edge(random.nextBoolean() ? LENGTHS[random.nextInt(LENGTHS.length)] : now - random.nextInt(3));
            return;
        }
        edge(now + (careless() ? random.nextInt(70000) : nextPulse()));
    }

    private long nextPulse() {
        int place = model.openNibbles();
        if (place < 0) {
            return careless() ? nextCalibration() + random.nextInt(3) - 1 : nextCalibration();
        }
        int value = place == 0 ? nextStatus() : place < 7 ? random.nextInt(16) : Wire.checkOf(data);
        if (place == 7 && careless()) {
            value ^= 1 + random.nextInt(15);
        }
        if (place > 0 && place < 7) {
            data = data << 4 & 0xFFFFFF | value;
        }
        return anyLengthOf(value);
    }

    /** One that is taken, and often just so. */
    private long nextCalibration() {
        long before = model.lastTaken();
        if (before == 0) {
            return 56 + random.nextInt(random.nextBoolean() ? 500 : 55945);
        }
        long away = before * percent / 100;
        long by = random.nextInt(3) > 0 ? random.nextInt((int) away + 1) : away;
        long length = random.nextBoolean() ? before + by : before - by;
        return length < 56 || length > 56000 ? before : length;
    }

    /** The shortest, the middle or the longest pulse that gives this value. */
    private long anyLengthOf(int value) {
        long m = model.lastTaken();
        long shortest = (m * (value + 12) - m / 2 + 55) / 56;
        long longest = (m * (value + 13) - m / 2 - 1) / 56;
        return new long[] {shortest, (shortest + longest) / 2, longest}[random.nextInt(3)];
    }

    private int nextStatus() {
        if (slowBit == 15) {
            int upper = random.nextInt(4096);
            slowRow = upper * 16 + Wire.checkOf(upper, 3);
            if (random.nextInt(4) == 0) {
                slowRow ^= 1 << random.nextInt(16);
            }
        }
        int status = (slowBit == 15 || careless() ? 8 : 0) + (slowRow >> slowBit & 1) * 4 + random.nextInt(4);
        slowBit = (slowBit + 15) % 16;
        return status;
    }

    private void edge(long t) {
        long due = model.edge(t);
        same("edge(" + t + ")", x.edge(t), due);
        now = due == -2 ? now : t;
    }

    private void otherCall() {
        int i = random.nextInt(70) - 3;
        int n = number();
        long length = length();
        switch (random.nextInt(11)) {
            case 0 -> nibble(random.nextInt(12) - 2);
            case 1 -> same("check(" + n + ")", x.check(n), model.check(n));
            case 2 -> same("slow(" + n + ")", x.slow(n), model.slow(n));
            case 3 -> same("row(" + n + ", " + i + ")", x.row(n, i), model.row(n, i));
            case 4 -> same("row(" + i + ", " + n + ")", x.row(i, n), model.row(i, n));
            case 5 -> calibrate(length);
            case 6 -> same("parity(" + n + ")", x.parity(n), model.parity(n));
            case 7 -> bounce();
            case 8 -> turn();
            case 9 -> same("faults()", x.faults(), model.faults());
            default -> same("marked()", x.marked() ? 1 : 0, model.marked());
        }
    }

    private void nibble(int i) {
        long got;
        try {
            got = x.nibble(i);
        } catch (ArrayIndexOutOfBoundsException e) {
            got = Long.MIN_VALUE;
        }
        same("nibble(" + i + ")", got, model.nibble(i));
    }

    private void calibrate(long length) {
        long got;
        try {
            got = x.calibrate(length);
        } catch (ArithmeticException e) {
            got = Long.MIN_VALUE;
        }
        same("calibrate(" + length + ")", got, model.calibrate(length));
    }

    private void bounce() {
        boolean level = random.nextInt(3) > 0;
        long t = switchTime + random.nextInt(13) - 1;
        long due = model.bounce(level, t);
        same("bounce(" + level + ", " + t + ")", x.bounce(level, t), due);
        switchTime = due == -2 ? switchTime : t;
    }

    private void turn() {
        wheel = careless() ? random.nextInt(4) : wheel ^ 1 + random.nextInt(2);
        boolean a = (wheel & 1) != 0;
        boolean b = (wheel & 2) != 0;
        same("turn(" + a + ", " + b + ")", x.turn(a, b), model.turn(a, b));
    }

    private void look() {
        int i = random.nextInt((int) model.row(-1, 0) + 3) - 2;
        int what = random.nextInt(5) - 1;
        int message = random.nextInt(6) - 2;
        switch (random.nextInt(6)) {
            case 0 -> nibble(random.nextInt(10) - 1);
            case 1 -> same("slow(" + message + ")", x.slow(message), model.slow(message));
            case 2 -> same("faults()", x.faults(), model.faults());
            case 3 -> same("marked()", x.marked() ? 1 : 0, model.marked());
            default -> same("row(" + i + ", " + what + ")", x.row(i, what), model.row(i, what));
        }
    }

    /** Stands behind each call of the object, so it counts them too. */
    private void same(String call, long got, long due) {
        calls++;
        Due.is(run + call, got, due);
    }
}
