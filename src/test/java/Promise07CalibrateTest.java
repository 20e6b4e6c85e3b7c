public final class Promise07CalibrateTest {
    public static void main(String[] args) {
        wholeQuotientIfItWouldBeTaken();
        otherwiseZero();
        takenNow();
        nothingChanges();
        exceptionWhenItIsZero();
        Due.end();
    }

    private static void wholeQuotientIfItWouldBeTaken() {
        Due.sentence("7 calibrate: \"56000 / length (whole) if it would be TAKEN now\"");
        PulseRows x = new PulseRows(20);
        long[][] cases = {{56, 1000}, {57, 982}, {560, 100}, {561, 99}, {18666, 3}, {18667, 2}, {28000, 2}, {28001, 1},
            {55999, 1}, {56000, 1}};
        for (long[] c : cases) {
            Due.is("calibrate(" + c[0] + ")", x.calibrate(c[0]), c[1]);
        }
    }

    private static void otherwiseZero() {
        Due.sentence("7 calibrate: \"otherwise 0\"");
        PulseRows x = new PulseRows(20);
        long[] lengths = {1, 55, 56001, 56002, -1, -55, -56, -560, -56000, (1L << 32) + 56, 1L << 32, 1L << 60,
            Integer.MIN_VALUE, Integer.MAX_VALUE, Long.MIN_VALUE, Long.MAX_VALUE};
        for (long length : lengths) {
            Due.is("calibrate(" + length + ")", x.calibrate(length), 0);
        }
        Due.is("calibrate(56)", x.calibrate(56), 1000);
        Due.is("calibrate(56000)", x.calibrate(56000), 1);
    }

    private static void takenNow() {
        Due.sentence("7 calibrate: \"would be TAKEN now\", where one was taken before");
        Wire w = new Wire(5, 1);
        Due.is("calibrate(949) before a calibration", w.x.calibrate(949), 59);
        w.pulse(1000);
        long[][] cases = {{1000, 56}, {950, 58}, {949, 0}, {1050, 53}, {1051, 0}, {56, 0}, {56000, 0}, {-1000, 0},
            {Long.MIN_VALUE, 0}, {Long.MAX_VALUE, 0}};
        for (long[] c : cases) {
            Due.is("calibrate(" + c[0] + ") behind 1000", w.x.calibrate(c[0]), c[1]);
        }
        w.pulse(1);
        w.pulse(700);
        Due.is("calibrate(700) behind 1000, 700 not being taken", w.x.calibrate(700), 0);
        Due.is("calibrate(950) still", w.x.calibrate(950), 58);
        w.pulse(950);
        Due.is("calibrate(903) behind 950", w.x.calibrate(903), 62);
        Due.is("calibrate(902) behind 950", w.x.calibrate(902), 0);
        Due.is("calibrate(997) behind 950", w.x.calibrate(997), 56);
        Due.is("calibrate(998) behind 950", w.x.calibrate(998), 0);
    }

    private static void nothingChanges() {
        Due.sentence("7 calibrate: \"nothing changes\"");
        PulseRows x = new PulseRows(20);
        x.calibrate(56);
        x.calibrate(-3);
        x.calibrate(56001);
        Due.is("calibrate(56000) behind calibrate(56)", x.calibrate(56000), 1);
        Due.is("faults() behind lengths that are not taken", x.faults(), 0);
        x.edge(0);
        x.edge(560);
        // 672 would be taken, and 806 would be behind 672, but not behind 560.
        Due.is("calibrate(672)", x.calibrate(672), 83);
        Due.is("calibrate(806)", x.calibrate(806), 0);
        Due.is("edge: the frame goes on with its calibration", x.edge(560 + 115), 1);
        x.calibrate(560);
        Due.is("edge: the frame goes on", x.edge(560 + 115 + 274), 2);
        Due.is("faults()", x.faults(), 0);
        Due.is("marked()", x.marked(), false);
    }

    private static void exceptionWhenItIsZero() {
        Due.sentence("7 calibrate: \"ArithmeticException when it is 0\"");
        PulseRows x = new PulseRows(20);
        Due.calibrateThrows("calibrate(0) at first", x, 0);
        Due.is("calibrate(-1)", x.calibrate(-1), 0);
        Due.is("calibrate(1)", x.calibrate(1), 0);
        x.edge(0);
        x.edge(560);
        Due.calibrateThrows("calibrate(0) in a frame", x, 0);
        Due.is("edge: the frame goes on", x.edge(680), 1);
        Due.calibrateThrows("calibrate(0) in a frame", x, 0);
        Due.is("calibrate(560)", x.calibrate(560), 100);
        Due.is("faults()", x.faults(), 0);
    }
}
