public final class Promise02EdgeTest {
    private static final long LATEST = 1L << 60;

    public static void main(String[] args) {
        countsNibbles();
        refusesTimes();
        refusalsChangeNothing();
        calibrationsFromShortestToLongest();
        calibrationsNearTheOneBefore();
        goneFrameKeepsItsCalibration();
        nibbleLengthsAreRounded();
        badNibblesEndTheFrame();
        longPulsesAreBad();
        Due.end();
    }

    private static void countsNibbles() {
        Wire w = new Wire(20, 10);
        for (int frame = 0; frame < 3; frame++) {
            Due.is("edge behind a calibration", w.calibration(), 0);
            for (int k = 1; k <= 8; k++) {
                Due.is("edge behind nibble " + k, w.nibble(k), k);
            }
        }
        Due.is("edge behind a calibration that is not taken", w.pulse(3), 0);
        Due.is("edge behind one more", w.pulse(3), 0);
    }

    private static void refusesTimes() {
        PulseRows x = new PulseRows(20);
        Due.is("edge(-1)", x.edge(-1), -2);
        Due.is("edge(Long.MIN_VALUE)", x.edge(Long.MIN_VALUE), -2);
        Due.is("edge(2^60 + 1)", x.edge(LATEST + 1), -2);
        Due.is("edge(Long.MAX_VALUE)", x.edge(Long.MAX_VALUE), -2);
        Due.is("edge(0) at first", x.edge(0), 0);
        Due.is("edge(0) again", x.edge(0), -2);
        Due.is("edge(1)", x.edge(1), 0);
        Due.is("faults(): the pulse of length 1", x.faults(), 1);
        Due.is("edge(0) behind 1", x.edge(0), -2);
        Due.is("edge(2^60)", x.edge(LATEST), 0);
        Due.is("edge(2^60) again", x.edge(LATEST), -2);
        Due.is("faults() behind refusals", x.faults(), 2);
    }

    private static void refusalsChangeNothing() {
        PulseRows x = new PulseRows(20);
        x.edge(1000);
        x.edge(1560);
        Due.is("edge(1700)", x.edge(1700), 1);
        Due.is("edge(1700) again", x.edge(1700), -2);
        Due.is("edge(5)", x.edge(5), -2);
        Due.is("edge(-7)", x.edge(-7), -2);
        Due.is("edge(2^60 + 1)", x.edge(LATEST + 1), -2);
        Due.is("edge(1820)", x.edge(1820), 2);
        Due.is("faults()", x.faults(), 0);
    }

    private static void calibrationsFromShortestToLongest() {
        for (long length : new long[] {1, 55, 56, 57, 55999, 56000, 56001, LATEST}) {
            PulseRows x = new PulseRows(20);
            x.edge(0);
            Due.is("edge behind a first pulse of " + length, x.edge(length), 0);
            boolean taken = length >= 56 && length <= 56000;
            Due.is("faults() behind a first pulse of " + length, x.faults(), taken ? 0 : 1);
        }
    }

    private static void calibrationsNearTheOneBefore() {
        long[][] cases = {{1000, 900, 1}, {1000, 899, 0}, {1000, 1100, 1}, {1000, 1101, 0},
            {56, 61, 1}, {56, 62, 0}, {56, 56, 1}, {60, 55, 0}, {55999, 56000, 1}, {55999, 56001, 0}};
        for (long[] c : cases) {
            PulseRows x = new PulseRows(10);
            x.edge(0);
            x.edge(c[0]);
            x.edge(2 * c[0]);
            Due.is("faults(): a nibble as long as its calibration", x.faults(), 1);
            x.edge(2 * c[0] + c[1]);
            Due.is("faults(): calibration " + c[1] + " behind " + c[0], x.faults(), c[2] == 1 ? 1 : 2);
        }
    }

    private static void goneFrameKeepsItsCalibration() {
        Wire w = new Wire(10, 1);
        w.pulse(1000);
        w.pulse(1);
        w.pulse(1100);
        w.pulse(1);
        Due.is("faults(): two bad nibbles", w.x.faults(), 2);
        w.pulse(1201);
        Due.is("faults(): 1201 is near 1000's next one, 1100, though its frame is gone", w.x.faults(), 2);
        w.pulse(1);
        w.pulse(900);
        Due.is("faults(): 900 is no longer near", w.x.faults(), 4);
    }

    /** For m = 5600 a unit is 100: value v is what lies from 100 (v + 12) - 50 to 100 (v + 12) + 49. */
    private static void nibbleLengthsAreRounded() {
        for (int value = 0; value <= 15; value++) {
            firstNibbleIs(5600, 100L * (value + 12) - 50, value);
            firstNibbleIs(5600, 100L * (value + 12) + 49, value);
        }
        firstNibbleIs(5600, 1149, -1);
        firstNibbleIs(5600, 2750, -1);
        // m odd: m / 2 is cut to a whole number.
        firstNibbleIs(57, 11, -1);
        firstNibbleIs(57, 12, 0);
        firstNibbleIs(57, 13, 1);
        firstNibbleIs(57, 28, -1);
        firstNibbleIs(57, 27, 15);
        firstNibbleIs(56000, 11499, -1);
        firstNibbleIs(56000, 11500, 0);
        firstNibbleIs(56000, 27499, 15);
        firstNibbleIs(56000, 27500, -1);
        for (int m = 56; m < 400; m++) {
            for (int n = 1; n < m; n++) {
                int value = (56 * n + m / 2) / m - 12;
                firstNibbleIs(m, n, value < 0 || value > 15 ? -1 : value);
            }
        }
    }

    /** Sends a calibration m and a first nibble n, and where it is not bad seven more, to look at it by row. */
    private static void firstNibbleIs(long m, long n, int value) {
        Wire w = new Wire(20, 1);
        w.pulse(m);
        String call = "calibration " + m + ", pulse " + n;
        Due.is("edge: " + call, w.pulse(n), value < 0 ? 0 : 1);
        Due.is("faults(): " + call, w.x.faults(), value < 0 ? 1 : 0);
        if (value < 0) {
            return;
        }
        for (int k = 2; k <= 8; k++) {
            Due.is("edge: nibble " + k, w.pulse(m / 4), k);
        }
        Due.is("row(0, 0): " + call, w.x.row(0, 0), value);
    }

    private static void badNibblesEndTheFrame() {
        for (int good = 0; good < 8; good++) {
            for (int bad : new int[] {-1, 16}) {
                Wire w = new Wire(20, 10);
                w.calibration();
                for (int k = 0; k < good; k++) {
                    w.nibble(3);
                }
                Due.is("edge behind a bad nibble", w.nibble(bad), 0);
                Due.is("faults()", w.x.faults(), 1);
                Due.is("row(-1, 0): the frame is gone", w.x.row(-1, 0), 0);
                Due.is("edge: a calibration is awaited", w.calibration(), 0);
                Due.is("faults() behind it", w.x.faults(), 1);
                Due.is("edge: then a nibble", w.nibble(0), 1);
            }
        }
    }

    /** 56 times such a length goes round in 64 bits, so a careless product can look like a good nibble. */
    private static void longPulsesAreBad() {
        for (long length : new long[] {56001, 1L << 40, (1L << 58), (1L << 60) - 56000, 329406144173384851L,
                329406144173384865L, 658812288346769701L, 988218432520154551L}) {
            for (long m : new long[] {56, 560, 56000}) {
                Wire w = new Wire(20, 1);
                w.pulse(m);
                Due.is("edge behind a pulse of " + length, w.pulse(length), 0);
                Due.is("faults() behind a pulse of " + length, w.x.faults(), 1);
            }
        }
    }
}
