public final class Promise11MarkedTest {
    public static void main(String[] args) {
        threeOfThem();
        aRightFrameInBetween();
        otherFramesInBetween();
        aSlowFaultComesBehindItsFrame();
        forGood();
        Due.end();
    }

    /** Four kinds of faults in every order of three, so that each is a first, a second and a third one. */
    private static void threeOfThem() {
        Due.sentence("11 marked, Terms: \"three of them\" MARK \"the sensor\"");
        Due.is("marked() of a new one", new PulseRows(20).marked(), false);
        for (int kinds = 0; kinds < 64; kinds++) {
            Wire w = new Wire(20, 10);
            w.calibration();
            w.nibble(0);
            w.pulse(1);
            w.rightFrame(0, 0);
            String call = " behind kinds " + kinds % 4 + ", " + kinds / 4 % 4 + ", " + kinds / 16;
            Due.is("marked() behind none since the right frame", w.x.marked(), false);
            fault(w, kinds % 4);
            Due.is("marked() behind one" + call, w.x.marked(), false);
            fault(w, kinds / 4 % 4);
            Due.is("marked() behind two" + call, w.x.marked(), false);
            fault(w, kinds / 16);
            Due.is("marked() behind three" + call, w.x.marked(), true);
        }
    }

    private static void fault(Wire w, int kind) {
        int before = w.x.faults();
        if (kind == 0) {
            w.pulse(1);
        } else if (kind == 1) {
            w.calibration();
            w.nibble(16);
        } else if (kind == 2) {
            w.wrongFrame(0, 0);
        } else {
            // The tracks are alike here, so one of the two turns changes both of them.
            w.x.turn(false, false);
            if (w.x.faults() == before) {
                w.x.turn(true, true);
            }
        }
        Due.is("faults() behind a fault of kind " + kind, w.x.faults(), before + 1);
    }

    private static void aRightFrameInBetween() {
        Due.sentence("11 marked, Terms: \"without a frame that is DONE with a right CHECK in between\"");
        Wire w = new Wire(20, 10);
        for (int k = 0; k < 4; k++) {
            w.pulse(1);
            w.pulse(1);
            w.rightFrame(0, k);
            Due.is("marked(): two faults, then a right frame", w.x.marked(), false);
        }
        Due.is("faults()", w.x.faults(), 8);
        w.pulse(1);
        w.rightFrame(0, 7);
        w.pulse(1);
        w.pulse(1);
        Due.is("marked(): one, a right frame, two", w.x.marked(), false);
        w.pulse(1);
        Due.is("marked(): one, a right frame, three", w.x.marked(), true);
    }

    private static void otherFramesInBetween() {
        Due.sentence("11 marked, Terms: only a frame that is \"DONE with a right CHECK\"");
        Wire w = new Wire(20, 10);
        w.pulse(1);
        w.pulse(1);
        // A frame that is not done, and a calibration that is taken, end nothing.
        w.calibration();
        for (int k = 0; k < 7; k++) {
            w.nibble(0);
        }
        Due.is("marked() behind two", w.x.marked(), false);
        w.nibble(20);
        Due.is("marked() behind three", w.x.marked(), true);
        // A wrong frame ends nothing, and is the third itself.
        Wire v = new Wire(20, 10);
        v.pulse(1);
        v.pulse(1);
        v.wrongFrame(0, 0);
        Due.is("marked() behind two and a wrong frame", v.x.marked(), true);
        // Neither does a switch that changes its state, or a step of the wheel.
        Wire u = new Wire(20, 10);
        u.pulse(1);
        u.pulse(1);
        u.x.bounce(true, 0);
        u.x.bounce(true, 10);
        u.x.turn(true, false);
        u.x.edge(0);
        Due.is("marked() behind two", u.x.marked(), false);
        u.x.turn(false, true);
        Due.is("marked() behind three", u.x.marked(), true);
    }

    private static void aSlowFaultComesBehindItsFrame() {
        Due.sentence("11 marked, Terms: the sixteenth frame is DONE with a right CHECK before its row is a FAULT");
        int wrong = Wire.slowRow(6, 6) ^ 2;
        Wire w = new Wire(20, 10);
        w.slowBits(wrong, 15, 1);
        w.pulse(1);
        w.pulse(1);
        w.slowBits(wrong, 0, 0);
        Due.is("faults()", w.x.faults(), 3);
        Due.is("marked(): the right frame is in between", w.x.marked(), false);
        w.pulse(1);
        Due.is("marked(): the slow fault and one more", w.x.marked(), false);
        w.pulse(1);
        Due.is("marked(): the slow fault and two more", w.x.marked(), true);
    }

    private static void forGood() {
        Due.sentence("11 marked, Terms: \"for good\"");
        Wire w = new Wire(20, 10);
        for (int k = 0; k < 3; k++) {
            w.pulse(1);
        }
        Due.is("marked()", w.x.marked(), true);
        w.slowBits(Wire.slowRow(1, 2), 15, 0);
        Due.is("marked() behind sixteen right frames and a message", w.x.marked(), true);
        w.pulse(1);
        Due.is("marked() behind one fault more", w.x.marked(), true);
        w.rightFrame(0, 0);
        Due.is("marked() behind a right frame more", w.x.marked(), true);
        Due.is("faults()", w.x.faults(), 4);
    }
}
