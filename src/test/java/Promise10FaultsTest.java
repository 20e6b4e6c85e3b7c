public final class Promise10FaultsTest {
    public static void main(String[] args) {
        everyKindCounts();
        whatIsNoFault();
        countedOnPastTheMark();
        Due.end();
    }

    private static void everyKindCounts() {
        Due.sentence("10 faults: \"How many FAULTS there were\": each kind is one");
        Wire w = new Wire(20, 10);
        Due.is("faults() at first", w.x.faults(), 0);
        w.pulse(55);
        Due.is("faults(): a calibration too short", w.x.faults(), 1);
        w.pulse(56001);
        Due.is("faults(): too long", w.x.faults(), 2);
        w.calibration();
        w.nibble(-1);
        Due.is("faults(): a nibble below 0", w.x.faults(), 3);
        w.calibration();
        w.nibble(16);
        Due.is("faults(): a nibble above 15", w.x.faults(), 4);
        w.pulse(673);
        Due.is("faults(): a calibration too far from the one before", w.x.faults(), 5);
        w.wrongFrame(0, 0x777);
        Due.is("faults(): a wrong check", w.x.faults(), 6);
        w.x.turn(true, true);
        Due.is("faults(): both tracks at once", w.x.faults(), 7);
        w.slowBits(Wire.slowRow(1, 1) ^ 1, 15, 0);
        Due.is("faults(): a slow row with a wrong check", w.x.faults(), 8);
        Due.is("faults() again", w.x.faults(), 8);
    }

    private static void whatIsNoFault() {
        Due.sentence("10 faults: refused calls, exceptions and what is right are none");
        Wire w = new Wire(20, 10);
        w.rightFrame(0, 0x999999);
        w.x.edge(0);
        w.x.edge(-1);
        w.x.bounce(true, -1);
        w.x.bounce(true, 3);
        w.x.bounce(false, 4);
        w.x.slow(7);
        w.x.row(7, 0);
        w.x.row(0, 7);
        w.x.check(3);
        w.x.parity(3);
        w.x.turn(true, false);
        w.x.turn(true, false);
        w.x.calibrate(1);
        Due.nibbleThrows("nibble(8)", w.x, 8);
        Due.calibrateThrows("calibrate(0)", w.x, 0);
        w.slowBits(Wire.slowRow(1, 1), 15, 0);
        Due.is("faults()", w.x.faults(), 0);
    }

    private static void countedOnPastTheMark() {
        Due.sentence("10 faults, Terms: \"FAULTS are counted\", behind a mark and a right frame too");
        Wire w = new Wire(20, 10);
        for (int k = 1; k <= 6; k++) {
            w.pulse(1);
            Due.is("faults(): also behind the third, which marks", w.x.faults(), k);
        }
        w.rightFrame(0, 0);
        Due.is("faults(): a right frame takes none away", w.x.faults(), 6);
        w.pulse(1);
        Due.is("faults()", w.x.faults(), 7);
    }
}
