public final class Promise11MarkedTest {
    public static void main(String[] args) {
        threeMark();
        aRightFrameEndsTheCount();
        otherFramesDoNot();
        aSlowFaultComesBehindItsFrame();
        markIsForGood();
        Due.end();
    }

    private static void threeMark() {
        Wire w = new Wire(20, 10);
        Due.is("marked() at first", w.x.marked(), false);
        w.pulse(1);
        Due.is("marked() behind one fault", w.x.marked(), false);
        w.x.turn(true, true);
        Due.is("marked() behind two", w.x.marked(), false);
        w.wrongFrame(0, 0);
        Due.is("marked() behind three", w.x.marked(), true);
    }

    private static void aRightFrameEndsTheCount() {
        Wire w = new Wire(20, 10);
        for (int k = 0; k < 4; k++) {
            w.pulse(1);
            w.pulse(1);
            w.rightFrame(0, k);
            Due.is("marked(): two faults, then a right frame", w.x.marked(), false);
        }
        Due.is("faults()", w.x.faults(), 8);
    }

    private static void otherFramesDoNot() {
        Wire w = new Wire(20, 10);
        w.pulse(1);
        w.pulse(1);
        // A frame that is not done, and a calibration that is taken, end nothing.
        w.calibration();
        for (int k = 0; k < 7; k++) {
            w.nibble(0);
        }
        Due.is("marked() behind two", w.x.marked(), false);
        w.nibble(20);
        Due.is("marked() behind three", w.x.marked(), true);
    }

    private static void aSlowFaultComesBehindItsFrame() {
        int wrong = Wire.slowRow(6, 6) ^ 2;
        Wire w = new Wire(20, 10);
        w.slowBits(wrong, 15, 1);
        w.pulse(1);
        w.pulse(1);
        w.slowBits(wrong, 0, 0);
        Due.is("faults()", w.x.faults(), 3);
        Due.is("marked(): the right frame is in between", w.x.marked(), false);
        w.pulse(1);
        Due.is("marked(): the slow fault and one more", w.x.marked(), false);
        w.pulse(1);
        Due.is("marked(): the slow fault and two more", w.x.marked(), true);
    }

    private static void markIsForGood() {
        Wire w = new Wire(20, 10);
        for (int k = 0; k < 3; k++) {
            w.pulse(1);
        }
        for (int k = 0; k < 5; k++) {
            w.rightFrame(0, k);
            Due.is("marked() behind a right frame", w.x.marked(), true);
        }
        Due.is("faults()", w.x.faults(), 3);
    }
}
