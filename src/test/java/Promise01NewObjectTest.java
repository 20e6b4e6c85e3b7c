public final class Promise01NewObjectTest {
    public static void main(String[] args) {
        toleranceFromOneToThirty();
        twentyForAnyOtherNumber();
        aNewObjectHasNothing();
        objectsShareNothing();
        Due.end();
    }

    private static void toleranceFromOneToThirty() {
        Due.sentence("1 A new object: \"TOLERANCE in percent (1 .. 30\"");
        for (int tolerance = 1; tolerance <= 30; tolerance++) {
            toleranceIs(tolerance, tolerance);
        }
    }

    private static void twentyForAnyOtherNumber() {
        Due.sentence("1 A new object: \"20 for any other number\"");
        int[] others = {0, 31, -1, 32, -20, -30, 100, 256 + 5, 65536 + 5, Integer.MIN_VALUE, Integer.MIN_VALUE + 5,
            Integer.MAX_VALUE};
        for (int other : others) {
            toleranceIs(other, 20);
        }
    }

    /** The last lengths on both sides of both ends, told by calibrate and by edges. */
    private static void toleranceIs(int given, int percent) {
        long up = 10000 + 100L * percent;
        long down = 10000 - 100L * percent;
        takenIs(given, up, true);
        takenIs(given, up + 1, false);
        takenIs(given, down, true);
        takenIs(given, down - 1, false);
    }

    private static void takenIs(int given, long length, boolean taken) {
        Wire w = new Wire(given, 1);
        w.pulse(10000);
        String call = " of " + length + " behind 10000, made with " + given;
        Due.is("calibrate" + call, w.x.calibrate(length), taken ? 56000 / length : 0);
        w.pulse(1);
        w.pulse(length);
        Due.is("faults(): a bad nibble, then a calibration" + call, w.x.faults(), taken ? 1 : 2);
    }

    private static void aNewObjectHasNothing() {
        Due.sentence("1 A new object: it has nothing yet");
        hasNothing(new PulseRows(20));
    }

    private static void hasNothing(PulseRows x) {
        Due.is("faults()", x.faults(), 0);
        Due.is("marked()", x.marked(), false);
        Due.is("slow(-1)", x.slow(-1), 0);
        Due.is("slow(0)", x.slow(0), -1);
        Due.is("row(-1, 0)", x.row(-1, 0), 0);
        Due.is("row(0, 0)", x.row(0, 0), -1);
        Due.nibbleThrows("nibble(0)", x, 0);
        Due.is("turn(false, false)", x.turn(false, false), 0);
        Due.is("bounce(false, 0)", x.bounce(false, 0), 0);
        Due.is("calibrate(56)", x.calibrate(56), 1000);
    }

    private static void objectsShareNothing() {
        Due.sentence("1 A new object: it has nothing of another one");
        Wire other = new Wire(20, 10);
        other.slowBits(Wire.slowRow(3, 0xA5), 15, 0);
        other.wrongFrame(0, 0);
        other.x.turn(true, true);
        other.x.turn(false, false);
        other.x.bounce(true, 100);
        Due.is("marked() of the other one", other.x.marked(), true);
        hasNothing(new PulseRows(20));
    }
}
