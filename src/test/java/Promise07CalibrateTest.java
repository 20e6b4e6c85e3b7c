public final class Promise07CalibrateTest {
    public static void main(String[] args) {
        beforeAnyCalibration();
        behindACalibration();
        nothingChanges();
        Due.end();
    }

    private static void beforeAnyCalibration() {
        PulseRows x = new PulseRows(20);
        long[][] cases = {{56, 1000}, {55, 0}, {1, 0}, {57, 982}, {560, 100}, {28000, 2}, {28001, 1}, {56000, 1},
            {56001, 0}, {-1, 0}, {-56, 0}, {-56000, 0}, {Long.MIN_VALUE, 0}, {Long.MAX_VALUE, 0}, {1L << 60, 0},
            {(1L << 32) + 56, 0}, {1L << 32, 0}};
        for (long[] c : cases) {
            Due.is("calibrate(" + c[0] + ")", x.calibrate(c[0]), c[1]);
        }
        Due.calibrateThrows("calibrate(0)", x, 0);
    }

    private static void behindACalibration() {
        Wire w = new Wire(5, 1);
        w.pulse(1000);
        long[][] cases = {{1000, 56}, {950, 58}, {949, 0}, {1050, 53}, {1051, 0}, {56, 0}, {56000, 0}, {-1000, 0},
            {Long.MIN_VALUE, 0}, {Long.MAX_VALUE, 0}};
        for (long[] c : cases) {
            Due.is("calibrate(" + c[0] + ") behind 1000", w.x.calibrate(c[0]), c[1]);
        }
        Due.calibrateThrows("calibrate(0) behind 1000", w.x, 0);
        w.pulse(1);
        w.pulse(700);
        Due.is("calibrate(700) behind 1000, 700 not being taken", w.x.calibrate(700), 0);
        w.pulse(950);
        Due.is("calibrate(905) behind 950", w.x.calibrate(905), 61);
        Due.is("calibrate(1050) behind 950", w.x.calibrate(1050), 0);
    }

    private static void nothingChanges() {
        PulseRows x = new PulseRows(20);
        x.calibrate(56);
        x.calibrate(-3);
        Due.calibrateThrows("calibrate(0)", x, 0);
        Due.is("calibrate(56000) behind calibrate(56)", x.calibrate(56000), 1);
        Due.is("faults()", x.faults(), 0);
        x.edge(0);
        x.edge(560);
        x.calibrate(600);
        x.calibrate(5);
        Due.is("edge: the frame goes on", x.edge(680), 1);
        Due.is("faults()", x.faults(), 0);
    }
}
