public final class Promise02EdgeTest {
    private static final long LATEST = 1L << 60;

    public static void main(String[] args) {
        zeroAtTheFirstEdge();
        nothingButACalibrationIsAwaited();
        howManyNibblesTheFrameHas();
        eightIfItIsDone();
        behindTheEighth();
        timeBelowZero();
        timeAboveTheLatest();
        timeNotAboveTheEdgeBefore();
        calibrationFrom56To56000();
        calibrationAtMostToleranceAway();
        calibrationTakenBefore();
        calibrationNotTaken();
        nibbleOfALength();
        nibbleBelowZeroOrAboveFifteen();
        badNibbleEndsTheFrame();
        longPulsesAreBad();
        Due.end();
    }

    private static void zeroAtTheFirstEdge() {
        Due.sentence("2 edge: \"0 at the first EDGE\"");
        for (long t : new long[] {0, 1, 55, 56, 560, 56000, 56001, LATEST - 1, LATEST}) {
            PulseRows x = new PulseRows(20);
            Due.is("edge(" + t + ") at first", x.edge(t), 0);
            Due.is("faults(): no pulse ends with the first edge, at " + t, x.faults(), 0);
        }
        // A refused edge is no first one.
        PulseRows x = new PulseRows(20);
        x.edge(-1);
        x.edge(LATEST + 1);
        Due.is("edge(7) behind two refused ones", x.edge(7), 0);
        Due.is("faults()", x.faults(), 0);
    }

    private static void nothingButACalibrationIsAwaited() {
        Due.sentence("Terms: \"At the first EDGE nothing is awaited but a CALIBRATION\"");
        // From time 0 to the first edge there is no pulse, so no calibration either: 120 behind it is the first one.
        PulseRows x = new PulseRows(20);
        x.edge(560);
        Due.is("calibrate(56000): none was taken", x.calibrate(56000), 1);
        Due.is("edge(680): a calibration", x.edge(680), 0);
        Due.is("faults()", x.faults(), 0);
        Due.is("calibrate(144): 120 was taken", x.calibrate(144), 388);
        Due.is("calibrate(145): 120 was taken", x.calibrate(145), 0);
        Due.is("edge(706): a nibble", x.edge(706), 1);
        PulseRows y = new PulseRows(20);
        y.edge(560);
        Due.is("edge(580): 20 is no calibration, and a nibble is not awaited", y.edge(580), 0);
        Due.is("faults()", y.faults(), 1);
    }

    private static void howManyNibblesTheFrameHas() {
        Due.sentence("2 edge: \"how many NIBBLES the frame has by now\"");
        Wire w = new Wire(20, 10);
        for (int frame = 0; frame < 3; frame++) {
            Due.is("edge behind a calibration", w.calibration(), 0);
            for (int k = 1; k <= 8; k++) {
                Due.is("edge behind nibble " + k, w.nibble(k), k);
            }
        }
        Due.is("edge behind a calibration that is not taken", w.pulse(3), 0);
        Due.is("edge behind one more", w.pulse(3), 0);
        w.calibration();
        w.nibble(0);
        Due.is("edge behind a second nibble", w.nibble(0), 2);
        Due.is("edge behind a bad one: the frame is gone", w.nibble(16), 0);
    }

    private static void eightIfItIsDone() {
        Due.sentence("2 edge: \"8 if it is DONE by this one\"");
        for (int check : new int[] {5, 4}) {
            Wire w = new Wire(20, 10);
            w.calibration();
            for (int k = 1; k <= 6; k++) {
                w.nibble(0);
            }
            Due.is("edge behind the seventh", w.nibble(0), 7);
            Due.is("row(-1, 0) behind the seventh", w.x.row(-1, 0), 0);
            Due.is("edge behind the eighth, a check of " + check, w.nibble(check), 8);
            Due.is("row(-1, 0) behind the eighth", w.x.row(-1, 0), 1);
            Due.is("row(0, 2)", w.x.row(0, 2), check == 5 ? 1 : 0);
            int faults = w.x.faults();
            Due.is("edge behind the ninth: a calibration is awaited", w.nibble(15), 0);
            Due.is("faults(): 270 is too far from 560", w.x.faults(), faults + 1);
        }
    }

    private static void behindTheEighth() {
        Due.sentence("Terms: \"Behind the eighth one the frame is DONE\", \"If it is wrong, that is a FAULT\"");
        for (int check : new int[] {5, 4, 6, 0, 15}) {
            Wire w = new Wire(20, 10);
            w.calibration();
            for (int k = 1; k <= 7; k++) {
                w.nibble(0);
                Due.is("faults() before the check", w.x.faults(), 0);
            }
            w.nibble(check);
            int faults = check == 5 ? 0 : 1;
            Due.is("faults() with a check of " + check, w.x.faults(), faults);
            Due.is("edge: a calibration is awaited", w.calibration(), 0);
            Due.is("faults() behind it", w.x.faults(), faults);
            Due.is("edge: then the status", w.nibble(0), 1);
        }
    }

    private static void timeBelowZero() {
        Due.sentence("2 edge: \"-2 t is below 0\"");
        PulseRows x = new PulseRows(20);
        for (long t : new long[] {-1, -2, -560, Integer.MIN_VALUE, -LATEST, Long.MIN_VALUE}) {
            Due.is("edge(" + t + ") at first", x.edge(t), -2);
        }
        Due.is("edge(0)", x.edge(0), 0);
        Due.is("edge(-1) behind 0", x.edge(-1), -2);
        Due.is("edge(Long.MIN_VALUE) behind 0", x.edge(Long.MIN_VALUE), -2);
        Due.is("faults()", x.faults(), 0);
    }

    private static void timeAboveTheLatest() {
        Due.sentence("2 edge: -2 t is \"above 2^60\"");
        PulseRows x = new PulseRows(20);
        for (long t : new long[] {LATEST + 1, LATEST + 2, LATEST * 2, Long.MAX_VALUE}) {
            Due.is("edge(" + t + ") at first", x.edge(t), -2);
        }
        Due.is("edge(2^60 - 56)", x.edge(LATEST - 56), 0);
        Due.is("edge(2^60 + 1) behind it", x.edge(LATEST + 1), -2);
        Due.is("edge(2^60)", x.edge(LATEST), 0);
        Due.is("faults(): 56 up to 2^60 is a calibration", x.faults(), 0);
        Due.is("edge(2^60 + 1) behind 2^60", x.edge(LATEST + 1), -2);
        Due.is("edge(Long.MAX_VALUE) behind 2^60", x.edge(Long.MAX_VALUE), -2);
        Due.is("faults()", x.faults(), 0);
    }

    private static void timeNotAboveTheEdgeBefore() {
        Due.sentence("2 edge: -2 t is \"not above the EDGE before\"");
        PulseRows x = new PulseRows(20);
        x.edge(0);
        Due.is("edge(0) behind 0", x.edge(0), -2);
        Due.is("edge(1) behind 0", x.edge(1), 0);
        Due.is("faults(): a pulse of 1", x.faults(), 1);
        Due.is("edge(1) behind 1", x.edge(1), -2);
        Due.is("edge(0) behind 1", x.edge(0), -2);
        x.edge(561);
        x.edge(681);
        Due.is("edge(680) in a frame", x.edge(680), -2);
        Due.is("edge(681) in a frame", x.edge(681), -2);
        Due.is("edge(0) in a frame", x.edge(0), -2);
        Due.is("edge(801): one nibble more", x.edge(801), 2);
        Due.is("edge(802): a pulse of 1", x.edge(802), 0);
        Due.is("faults()", x.faults(), 2);
        x.edge(LATEST);
        Due.is("edge(2^60) behind 2^60", x.edge(LATEST), -2);
        Due.is("edge(2^60 - 1) behind 2^60", x.edge(LATEST - 1), -2);
        Due.is("faults()", x.faults(), 3);
    }

    private static void calibrationFrom56To56000() {
        Due.sentence("Terms, CALIBRATION: \"TAKEN if n is 56 to 56000\"");
        for (long n : new long[] {56, 57, 560, 55999, 56000}) {
            firstCalibration(n, true);
        }
        for (long n : new long[] {1, 55, 56001, 56002, (1L << 32) + 560, LATEST}) {
            firstCalibration(n, false);
        }
        // Also where one was taken before and the tolerance would allow it.
        calibrationBehind(30, 57, 56, true);
        calibrationBehind(30, 57, 55, false);
        calibrationBehind(30, 55999, 56000, true);
        calibrationBehind(30, 55999, 56001, false);
        calibrationBehind(30, 56, 55, false);
        calibrationBehind(30, 56000, 56001, false);
    }

    private static void firstCalibration(long n, boolean taken) {
        PulseRows x = new PulseRows(20);
        x.edge(0);
        Due.is("edge behind a first pulse of " + n, x.edge(n), 0);
        Due.is("faults() behind a first pulse of " + n, x.faults(), taken ? 0 : 1);
        if (taken) {
            Due.is("edge: a nibble of a quarter of " + n, x.edge(n + n / 4), 1);
        }
    }

    private static void calibrationAtMostToleranceAway() {
        Due.sentence("Terms, CALIBRATION: \"100 |n - m| is at most TOLERANCE m\"");
        calibrationBehind(20, 1000, 800, true);
        calibrationBehind(20, 1000, 799, false);
        calibrationBehind(20, 1000, 1200, true);
        calibrationBehind(20, 1000, 1201, false);
        // 20 * 57 is 1140: 11 away and no more.
        calibrationBehind(20, 57, 68, true);
        calibrationBehind(20, 57, 69, false);
        // 1 * 99 is below 100, so only 99 itself.
        calibrationBehind(1, 99, 99, true);
        calibrationBehind(1, 99, 98, false);
        calibrationBehind(1, 99, 100, false);
        calibrationBehind(1, 100, 99, true);
        calibrationBehind(1, 100, 98, false);
        calibrationBehind(1, 100, 101, true);
        calibrationBehind(1, 100, 102, false);
        calibrationBehind(30, 56000, 39200, true);
        calibrationBehind(30, 56000, 39199, false);
        calibrationBehind(30, 56, 72, true);
        calibrationBehind(30, 56, 73, false);
        // Of m, the one before, not of n: 1000 is 200 away from 800, and 20 percent of 800 is 160.
        calibrationBehind(20, 800, 1000, false);
        calibrationBehind(20, 800, 960, true);
        calibrationBehind(20, 800, 961, false);
    }

    private static void calibrationBehind(int tolerance, long m, long n, boolean taken) {
        Wire w = new Wire(tolerance, 1);
        w.pulse(m);
        w.pulse(1);
        String call = "calibration " + n + " behind " + m + " with tolerance " + tolerance;
        Due.is("faults(): a bad nibble before " + call, w.x.faults(), 1);
        Due.is("edge: " + call, w.pulse(n), 0);
        Due.is("faults(): " + call, w.x.faults(), taken ? 1 : 2);
        if (taken) {
            Due.is("edge: a nibble behind " + call, w.pulse(n / 4), 1);
        }
    }

    private static void calibrationTakenBefore() {
        Due.sentence("Terms, CALIBRATION: \"where one was taken before, of length m\"");
        Wire w = new Wire(10, 1);
        w.pulse(60000);
        w.pulse(55);
        Due.is("faults(): two that are not taken", w.x.faults(), 2);
        w.pulse(1000);
        Due.is("faults(): none was taken before, so 1000 is", w.x.faults(), 2);
        w.pulse(1);
        w.pulse(1100);
        w.pulse(1);
        Due.is("faults(): two bad nibbles more", w.x.faults(), 4);
        w.pulse(1210);
        Due.is("faults(): 1210 is near 1100, though its frame is gone", w.x.faults(), 4);
        w.pulse(1);
        w.pulse(1000);
        Due.is("faults(): 1000 is no longer near", w.x.faults(), 6);
        w.pulse(1089);
        Due.is("faults(): 1089 is near 1210, 1000 not having been taken", w.x.faults(), 6);
        Due.is("edge: a nibble behind it", w.pulse(1089 / 4), 1);
    }

    private static void calibrationNotTaken() {
        Due.sentence("Terms: \"otherwise that is a FAULT, and a CALIBRATION is awaited again\"");
        Wire w = new Wire(20, 10);
        for (int k = 1; k <= 5; k++) {
            Due.is("edge behind a pulse of 55", w.pulse(55), 0);
            Due.is("faults()", w.x.faults(), k);
        }
        Due.is("edge behind a calibration", w.calibration(), 0);
        Due.is("faults()", w.x.faults(), 5);
        Due.is("edge: the status was awaited", w.nibble(0), 1);
        Due.is("row(-1, 0)", w.x.row(-1, 0), 0);
    }

    /** For m = 5600 a unit is 100: value v is what lies from 100 (v + 12) - 50 to 100 (v + 12) + 49. */
    private static void nibbleOfALength() {
        Due.sentence("Terms, NIBBLE: \"(56 n + m / 2) / m - 12 (both quotients whole, towards 0)\"");
        for (int value = 0; value <= 15; value++) {
            firstNibbleIs(5600, 100L * (value + 12) - 50, value);
            firstNibbleIs(5600, 100L * (value + 12), value);
            firstNibbleIs(5600, 100L * (value + 12) + 49, value);
        }
        // m odd: m / 2 is cut to a whole number. 56 * 20 + 41 is 1161, one below 14 * 83.
        firstNibbleIs(83, 20, 1);
        // 56 * 82 + 83 is 4675, one below 28 * 167; 56 * 31 + 75 is 1811, one below 12 * 151.
        firstNibbleIs(167, 82, 15);
        firstNibbleIs(151, 31, -1);
        for (int m = 56; m < 400; m++) {
            for (int n = 1; n < m; n++) {
                int value = (56 * n + m / 2) / m - 12;
                firstNibbleIs(m, n, value < 0 || value > 15 ? -1 : value);
            }
        }
    }

    private static void nibbleBelowZeroOrAboveFifteen() {
        Due.sentence("Terms, NIBBLE: \"BAD if it is below 0 or above 15\"");
        long[][] firstAndLast = {{56, 12, 27}, {57, 12, 27}, {560, 115, 274}, {5600, 1150, 2749},
            {56000, 11500, 27499}};
        for (long[] c : firstAndLast) {
            firstNibbleIs(c[0], c[1] - 1, -1);
            firstNibbleIs(c[0], c[1], 0);
            firstNibbleIs(c[0], c[2], 15);
            firstNibbleIs(c[0], c[2] + 1, -1);
        }
        // Each of the eight is looked at.
        for (int place = 0; place < 8; place++) {
            nibbleAtPlace(place, 114, true);
            nibbleAtPlace(place, 115, false);
            nibbleAtPlace(place, 274, false);
            nibbleAtPlace(place, 275, true);
        }
    }

    private static void nibbleAtPlace(int place, long length, boolean bad) {
        Wire w = new Wire(20, 10);
        w.calibration();
        for (int k = 0; k < place; k++) {
            w.nibble(3);
        }
        Due.is("edge: nibble " + place + " of length " + length, w.pulse(length), bad ? 0 : place + 1);
    }

    /** Sends a calibration m and a first nibble n, and where it is not bad seven more, to look at it by row. */
    private static void firstNibbleIs(long m, long n, int value) {
        Wire w = new Wire(20, 1);
        w.pulse(m);
        String call = "calibration " + m + ", pulse " + n;
        Due.is("edge: " + call, w.pulse(n), value < 0 ? 0 : 1);
        Due.is("faults(): " + call, w.x.faults(), value < 0 ? 1 : 0);
        if (value < 0) {
            return;
        }
        for (int k = 2; k <= 8; k++) {
            Due.is("edge: nibble " + k, w.pulse(m / 4), k);
        }
        Due.is("row(0, 0): " + call, w.x.row(0, 0), value);
    }

    private static void badNibbleEndsTheFrame() {
        Due.sentence("Terms: \"A NIBBLE that is BAD is a FAULT, and the frame is gone: a CALIBRATION is awaited\"");
        for (int good = 0; good < 8; good++) {
            for (int bad : new int[] {-1, 16}) {
                Wire w = new Wire(20, 10);
                w.calibration();
                for (int k = 0; k < good; k++) {
                    w.nibble(3);
                }
                Due.is("edge behind a bad nibble", w.nibble(bad), 0);
                Due.is("faults()", w.x.faults(), 1);
                Due.is("row(-1, 0): the frame is gone", w.x.row(-1, 0), 0);
                Due.is("edge: a calibration is awaited", w.calibration(), 0);
                Due.is("faults() behind it", w.x.faults(), 1);
                Due.is("edge: nothing of the gone frame counts", w.nibble(0), 1);
                for (int k = 2; k <= 8; k++) {
                    Due.is("edge: the frame goes on", w.nibble(0), k);
                }
                Due.is("row(0, 1)", w.x.row(0, 1), 0);
            }
        }
    }

    /** 56 times such a length goes round in 64 bits, so a careless product can look like a good nibble. */
    private static void longPulsesAreBad() {
        Due.sentence("Terms, NIBBLE: BAD if it is \"above 15\", however long the pulse");
        for (long length : new long[] {56001, 1L << 40, (1L << 58), (1L << 60) - 56000, 329406144173384851L,
                329406144173384865L, 658812288346769701L, 988218432520154551L}) {
            for (long m : new long[] {56, 560, 56000}) {
                Wire w = new Wire(20, 1);
                w.pulse(m);
                Due.is("edge behind a pulse of " + length, w.pulse(length), 0);
                Due.is("faults() behind a pulse of " + length, w.x.faults(), 1);
            }
        }
    }
}
