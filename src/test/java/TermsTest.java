/** The sentences of the document's 'Terms' that no promise's test holds by itself, in the document's order. */
public final class TermsTest {
    private static final long LATEST = 1L << 60;

    public static void main(String[] args) {
        pulseFromOneEdgeToTheNext();
        calibrationIs56Units();
        nibblesAre12UnitsAndTheirValue();
        statusSixOfDataAndTheCheck();
        measuredByTheFramesCalibration();
        theStatusIsAwaited();
        aCalibrationIsAwaitedBehindAFrame();
        theRowT();
        theSixteenBits();
        Due.end();
    }

    private static void pulseFromOneEdgeToTheNext() {
        Due.sentence("Terms: \"EDGES come at times; a PULSE is from one to the next one\"");
        // The same pulses are the same frame, whenever the first edge comes.
        int[] pulses = {560, 150, 130, 140, 150, 160, 170, 180, 140};
        for (long start : new long[] {0, 1, 560, 123456789, LATEST - 1780}) {
            PulseRows x = new PulseRows(20);
            long t = start;
            x.edge(t);
            for (int k = 0; k < pulses.length; k++) {
                t += pulses[k];
                Due.is("edge(" + t + ")", x.edge(t), k);
            }
            Due.is("row(0, 0) from " + start, x.row(0, 0), 3);
            Due.is("row(0, 1) from " + start, x.row(0, 1), 0x123456);
            Due.is("row(0, 2) from " + start, x.row(0, 2), 1);
        }
        // A refused edge parts no pulse.
        PulseRows x = new PulseRows(20);
        x.edge(100);
        Due.is("edge(-1)", x.edge(-1), -2);
        Due.is("edge(100)", x.edge(100), -2);
        x.edge(660);
        Due.is("edge(600)", x.edge(600), -2);
        Due.is("edge(780): 120 from 660 on", x.edge(780), 1);
        Due.is("faults()", x.faults(), 0);
    }

    private static void calibrationIs56Units() {
        Due.sentence("Terms: \"A FRAME is a CALIBRATION pulse (56 UNITS long)\"");
        for (int unit = 1; unit <= 1000; unit++) {
            Wire w = new Wire(20, unit);
            Due.is("edge: a calibration with a unit of " + unit, w.calibration(), 0);
            Due.is("faults() with a unit of " + unit, w.x.faults(), 0);
            Due.is("calibrate of 56 units of " + unit, w.x.calibrate(56L * unit), 1000 / unit);
        }
        Wire w = new Wire(20, 1001);
        w.calibration();
        Due.is("faults() with a unit of 1001", w.x.faults(), 1);
    }

    private static void nibblesAre12UnitsAndTheirValue() {
        Due.sentence("Terms: \"eight NIBBLES, each 12 UNITS and its value, 0 to 15, more\"");
        for (int unit = 1; unit <= 1000; unit++) {
            Wire w = new Wire(20, unit);
            allValues(w, unit);
            w.calibration();
            Due.is("edge: 11 units of " + unit, w.nibble(-1), 0);
            w.calibration();
            Due.is("edge: 28 units of " + unit, w.nibble(16), 0);
            Due.is("row(-1, 0) with a unit of " + unit, w.x.row(-1, 0), 2);
        }
    }

    /** Two frames whose sixteen nibbles are 0 to 15. */
    private static void allValues(Wire w, int unit) {
        for (int first = 0; first <= 8; first += 8) {
            w.calibration();
            for (int k = 0; k < 8; k++) {
                Due.is("edge: nibble " + k + " with a unit of " + unit, w.nibble(first + k), k + 1);
            }
            for (int k = 0; k < 8; k++) {
                Due.is("nibble(" + k + ") with a unit of " + unit, w.x.nibble(k), first + k);
            }
        }
    }

    private static void statusSixOfDataAndTheCheck() {
        Due.sentence("Terms: \"STATUS, six of data, the CHECK\"");
        // One nibble that is not 0 at each of the eight places.
        int[] status = {1, 0, 0, 0, 0, 0, 0, 0};
        int[] data = {0, 0x100000, 0x010000, 0x001000, 0x000100, 0x000010, 0x000001, 0};
        for (int place = 0; place < 8; place++) {
            Wire w = new Wire(20, 10);
            w.calibration();
            for (int k = 0; k < 8; k++) {
                w.nibble(k == place ? 1 : 0);
            }
            Due.is("row(0, 0) with 1 at place " + place, w.x.row(0, 0), status[place]);
            Due.is("row(0, 1) with 1 at place " + place, w.x.row(0, 1), data[place]);
            for (int k = 0; k < 8; k++) {
                Due.is("nibble(" + k + ") with 1 at place " + place, w.x.nibble(k), k == place ? 1 : 0);
            }
        }
        // The status is not what is checked: the data 0 has the check 5 with each of them.
        Wire w = new Wire(20, 10);
        for (int k = 0; k < 16; k++) {
            w.frame(k, 0, 5);
            Due.is("row(" + k + ", 2) with the status " + k, w.x.row(k, 2), 1);
        }
    }

    private static void measuredByTheFramesCalibration() {
        Due.sentence("Terms, NIBBLE: \"m being the length of the frame's CALIBRATION\"");
        // 200 is 20 units of 10, but 18 units of 11 (18.18), and 21 of 9.5 (21.05).
        long[] calibrations = {560, 616, 532};
        int[] values = {8, 6, 9};
        Wire w = new Wire(20, 1);
        for (int k = 0; k < 3; k++) {
            Due.is("edge: calibration " + calibrations[k], w.pulse(calibrations[k]), 0);
            for (int n = 1; n <= 8; n++) {
                Due.is("edge: a pulse of 200", w.pulse(200), n);
            }
            Due.is("row(" + k + ", 0) behind " + calibrations[k], w.x.row(k, 0), values[k]);
        }
        // One that is not taken measures nothing: 560 is behind 532, and 800 in between was not taken.
        w.pulse(800);
        w.pulse(560);
        for (int n = 1; n <= 8; n++) {
            Due.is("edge: a pulse of 200", w.pulse(200), n);
        }
        Due.is("row(3, 0)", w.x.row(3, 0), 8);
    }

    private static void theStatusIsAwaited() {
        Due.sentence("Terms: \"while a CALIBRATION is awaited, it is one: if it is TAKEN, the STATUS is awaited\"");
        // A pulse of 120 is a calibration where one is awaited, and a nibble behind 560.
        Wire w = new Wire(20, 1);
        Due.is("edge: 120 is a calibration", w.pulse(120), 0);
        Due.is("calibrate(120)", w.x.calibrate(120), 466);
        Due.is("edge: 30 of 120 is the status", w.pulse(30), 1);
        Wire v = new Wire(20, 1);
        Due.is("edge: 560 is a calibration", v.pulse(560), 0);
        Due.is("edge: 120 of 560 is the status", v.pulse(120), 1);
        Due.is("calibrate(120) is too far from 560", v.x.calibrate(120), 0);
        Due.is("edge: 560 is no nibble, and no calibration here", v.pulse(560), 0);
        Due.is("faults()", v.x.faults(), 1);
        Due.is("edge: 120 is no calibration behind 560", v.pulse(120), 0);
        Due.is("faults()", v.x.faults(), 2);
    }

    private static void aCalibrationIsAwaitedBehindAFrame() {
        Due.sentence("Terms: (behind a frame that is DONE) \"A CALIBRATION is awaited\"");
        for (int check : new int[] {5, 6}) {
            Wire w = new Wire(20, 10);
            w.frame(0, 0, check);
            int faults = w.x.faults();
            Due.is("edge: 120 is no ninth nibble", w.nibble(0), 0);
            Due.is("faults(): 120 is no calibration behind 560", w.x.faults(), faults + 1);
            Due.is("row(-1, 0)", w.x.row(-1, 0), 1);
            Due.is("edge: a calibration", w.calibration(), 0);
            Due.is("faults() behind it", w.x.faults(), faults + 1);
            Due.is("edge: the status", w.nibble(0), 1);
        }
    }

    private static void theRowT() {
        Due.sentence("Terms, CHECKING: \"T is the row 0 13 7 10 14 3 9 4 1 12 6 11 15 2 8 5\"");
        int[] t = {0, 13, 7, 10, 14, 3, 9, 4, 1, 12, 6, 11, 15, 2, 8, 5};
        PulseRows x = new PulseRows(20);
        for (int c = 0; c < 16; c++) {
            // 0x3n makes c = n (T(5) is 3, 3 xor 3 is 0, T(0) is 0), and at last T(n).
            Due.is("check(0x3" + Integer.toHexString(c) + ")", x.check(0x30 + c), t[c]);
        }
    }

    private static void theSixteenBits() {
        Due.sentence("Terms, SLOW CHANNEL: \"its upper four bits are an identity, the next eight data\"");
        for (int identity = 0; identity < 16; identity++) {
            for (int data = 0; data < 256; data += 17) {
                Wire w = new Wire(20, 3);
                w.slowBits(Wire.slowRow(identity, data), 15, 0);
                Due.is("slow(0) of identity " + identity + ", data " + data, w.x.slow(0), identity * 256 + data);
            }
        }
    }
}
