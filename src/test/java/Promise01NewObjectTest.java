public final class Promise01NewObjectTest {
    public static void main(String[] args) {
        for (int tolerance = 1; tolerance <= 30; tolerance++) {
            toleranceIs(tolerance, tolerance);
        }
        for (int other : new int[] {0, 31, -1, -20, 100, Integer.MIN_VALUE, Integer.MAX_VALUE}) {
            toleranceIs(other, 20);
        }
        startsEmpty();
        Due.end();
    }

    private static void toleranceIs(int given, int percent) {
        PulseRows x = new PulseRows(given);
        x.edge(0);
        x.edge(10000);
        String who = "tolerance " + given + ": ";
        long up = 10000 + 100L * percent;
        long down = 10000 - 100L * percent;
        Due.is(who + "calibrate(" + up + ")", x.calibrate(up), 56000 / up);
        Due.is(who + "calibrate(" + (up + 1) + ")", x.calibrate(up + 1), 0);
        Due.is(who + "calibrate(" + down + ")", x.calibrate(down), 56000 / down);
        Due.is(who + "calibrate(" + (down - 1) + ")", x.calibrate(down - 1), 0);
    }

    private static void startsEmpty() {
        PulseRows x = new PulseRows(20);
        Due.is("faults()", x.faults(), 0);
        Due.is("marked()", x.marked(), false);
        Due.is("slow(-1)", x.slow(-1), 0);
        Due.is("row(-1, 0)", x.row(-1, 0), 0);
        Due.nibbleThrows("nibble(0)", x, 0);
        Due.is("turn(false, false)", x.turn(false, false), 0);
        // Two objects share nothing.
        PulseRows y = new PulseRows(20);
        y.turn(true, true);
        Due.is("faults() of another object", x.faults(), 0);
    }
}
