/** "An object is used for at most 512 calls": runs of just 512 calls, and the last of them answers as is due. */
public final class UsedFor512CallsTest {
    private static final int CALLS = 512;
    private static final int FRAMES = 56;
    /** The first edge, and nine for each frame. */
    private static final int EDGES = 1 + 9 * FRAMES;
    private static final int[] MESSAGES = {0x3A5, 0xF00, 0x0FF};

    public static void main(String[] args) {
        framesThenLooks();
        looksThenFrames();
        anOpenFrameAtTheEnd();
        wrongFrames();
        shortPulses();
        wheelFaults();
        steps();
        bounces();
        refusedCalls();
        Due.end();
    }

    /** Three whole slow rows and half of a fourth. */
    private static int status(int frame) {
        int bit = 15 - frame % 16;
        int message = frame < 48 ? MESSAGES[frame / 16] : 0xABC;
        int row = Wire.slowRow(message >> 8, message & 255);
        return (bit == 15 ? 8 : 0) + (row >> bit & 1) * 4 + frame % 4;
    }

    private static int data(int frame) {
        return 0x123456 + 0x31415 * frame;
    }

    /** Sends the frames, and looks at the answer of each edge. */
    private static void send(Wire w) {
        for (int frame = 0; frame < FRAMES; frame++) {
            Due.is("edge: calibration " + frame, w.calibration(), 0);
            Due.is("edge: status " + frame, w.nibble(status(frame)), 1);
            for (int k = 1; k <= 6; k++) {
                Due.is("edge: nibble " + k + " of frame " + frame, w.nibble(data(frame) >> (24 - 4 * k) & 15), k + 1);
            }
            Due.is("edge: check " + frame, w.nibble(Wire.checkOf(data(frame))), 8);
        }
    }

    private static void framesThenLooks() {
        Due.sentence("\"at most 512 calls\": 505 edges with as many frames as there can be, then 7 looks");
        Due.is("calls that are left", CALLS - EDGES, 7);
        for (int first = 0; first < 203; first += 7) {
            Wire w = new Wire(20, 3);
            send(w);
            for (int look = first; look < first + 7; look++) {
                look(w.x, look);
            }
        }
    }

    /** Seven looks in a row go to one object: of the last ones 168 to 174, 175 to 181 and so on. */
    private static void look(PulseRows x, int look) {
        if (look < 3 * FRAMES) {
            int i = look / 3;
            int[] due = {status(i), data(i), 1};
            Due.is("row(" + i + ", " + look % 3 + ")", x.row(i, look % 3), due[look % 3]);
            return;
        }
        int last = FRAMES - 1;
        switch (look - 3 * FRAMES) {
            case 0 -> Due.is("row(-1, 0)", x.row(-1, 0), FRAMES);
            case 1 -> Due.is("row(56, 0)", x.row(FRAMES, 0), -1);
            case 2 -> Due.is("row(57, 1)", x.row(FRAMES + 1, 1), -1);
            case 3 -> Due.is("row(55, 3)", x.row(last, 3), -2);
            case 4 -> Due.is("slow(-1)", x.slow(-1), 3);
            case 5 -> Due.is("slow(0)", x.slow(0), 0x3A5);
            case 6 -> Due.is("slow(1)", x.slow(1), 0xF00);
            case 7 -> Due.is("slow(2)", x.slow(2), 0x0FF);
            case 8 -> Due.is("slow(3)", x.slow(3), -1);
            case 9 -> Due.is("nibble(0)", x.nibble(0), status(last));
            case 10 -> Due.is("nibble(1)", x.nibble(1), data(last) >> 20 & 15);
            case 11 -> Due.is("nibble(6)", x.nibble(6), data(last) & 15);
            case 12 -> Due.is("nibble(7)", x.nibble(7), Wire.checkOf(data(last)));
            case 13 -> Due.nibbleThrows("nibble(8)", x, 8);
            case 14 -> Due.nibbleThrows("nibble(-1)", x, -1);
            case 15 -> Due.is("faults()", x.faults(), 0);
            case 16 -> Due.is("marked()", x.marked(), false);
            case 17 -> Due.is("calibrate(134)", x.calibrate(134), 0);
            case 18 -> Due.is("calibrate(135)", x.calibrate(135), 414);
            case 19 -> Due.calibrateThrows("calibrate(0)", x, 0);
            case 20 -> Due.is("check(0x123456)", x.check(0x123456), 2);
            case 21 -> Due.is("parity(7)", x.parity(7), 1);
            case 22 -> Due.is("bounce(true, 2^60)", x.bounce(true, 1L << 60), 0);
            case 23 -> Due.is("bounce(true, 2^60)", x.bounce(true, 1L << 60), 0);
            case 24 -> Due.is("bounce(false, 2^60 - 1)", x.bounce(false, (1L << 60) - 1), -2);
            case 25 -> Due.is("turn(true, false)", x.turn(true, false), 1);
            case 26 -> Due.is("turn(true, true)", x.turn(true, true), 2);
            case 27 -> Due.is("turn(false, false)", x.turn(false, false), 2);
            default -> Due.is("edge(0)", x.edge(0), -2);
        }
    }

    private static void looksThenFrames() {
        Due.sentence("\"at most 512 calls\": 7 looks, then 505 edges, and the 512th call is 8");
        PulseRows x = new PulseRows(20);
        for (int k = 0; k < 7; k++) {
            Due.is("row(-1, 0)", x.row(-1, 0), 0);
        }
        long now = 0;
        int calls = 7;
        Due.is("edge(0)", x.edge(now), 0);
        calls++;
        for (int frame = 0; frame < FRAMES; frame++) {
            now += 56;
            Due.is("edge: calibration " + frame, x.edge(now), 0);
            for (int k = 1; k <= 8; k++) {
                now += 12 + k;
                Due.is("edge: nibble " + k, x.edge(now), k);
            }
            calls += 9;
        }
        Due.is("calls", calls, CALLS);
    }

    private static void anOpenFrameAtTheEnd() {
        Due.sentence("\"at most 512 calls\": 511 edges, 6 of them for a 57th frame, and the last one that was DONE");
        Wire w = new Wire(20, 3);
        send(w);
        w.calibration();
        for (int k = 1; k <= 5; k++) {
            Due.is("edge: nibble " + k + " of a 57th frame", w.nibble(9), k);
        }
        Due.is("nibble(0) as the 512th call", w.x.nibble(0), status(FRAMES - 1));
    }

    private static void wrongFrames() {
        Due.sentence("\"at most 512 calls\": 56 frames with a wrong CHECK");
        Wire w = new Wire(20, 3);
        for (int frame = 0; frame < FRAMES; frame++) {
            Due.is("edge: wrong frame " + frame, w.wrongFrame(status(frame), data(frame)), 8);
        }
        Due.is("faults()", w.x.faults(), FRAMES);
        Due.is("marked()", w.x.marked(), true);
        Due.is("row(-1, 0)", w.x.row(-1, 0), FRAMES);
        Due.is("row(55, 1)", w.x.row(55, 1), data(55));
        Due.is("row(55, 2)", w.x.row(55, 2), 0);
        Due.is("row(56, 2)", w.x.row(56, 2), -1);
        Due.is("slow(-1) as the 512th call", w.x.slow(-1), 0);
    }

    private static void shortPulses() {
        Due.sentence("\"at most 512 calls\": 511 edges, 510 of them a FAULT");
        Wire w = new Wire(20, 3);
        for (int k = 0; k < 510; k++) {
            Due.is("edge behind a pulse of 1", w.pulse(1), 0);
        }
        Due.is("faults() as the 512th call", w.x.faults(), 510);
    }

    private static void wheelFaults() {
        Due.sentence("\"at most 512 calls\": 511 turns, each a FAULT");
        PulseRows x = new PulseRows(20);
        for (int k = 0; k < 511; k++) {
            Due.is("turn with both changing", x.turn(k % 2 == 0, k % 2 == 0), 0);
        }
        Due.is("faults() as the 512th call", x.faults(), 511);
    }

    private static void steps() {
        Due.sentence("\"at most 512 calls\": 512 steps up, 512 steps down");
        PulseRows up = new PulseRows(20);
        PulseRows down = new PulseRows(20);
        for (int k = 1; k <= CALLS; k++) {
            Due.is("step up " + k, up.turn(k % 4 == 1 || k % 4 == 2, k % 4 == 2 || k % 4 == 3), k);
            Due.is("step down " + k, down.turn(k % 4 == 2 || k % 4 == 3, k % 4 == 1 || k % 4 == 2), -k);
        }
    }

    private static void bounces() {
        Due.sentence("\"at most 512 calls\": 512 bounces");
        PulseRows x = new PulseRows(20);
        for (int k = 0; k < CALLS / 2; k++) {
            Due.is("bounce to another level", x.bounce(k % 2 == 0, 20L * k), 0);
            Due.is("bounce 10 later", x.bounce(k % 2 == 0, 20L * k + 10), 1);
        }
    }

    private static void refusedCalls() {
        Due.sentence("\"at most 512 calls\": 510 refused ones, and then two that are not");
        PulseRows x = new PulseRows(20);
        for (int k = 0; k < 85; k++) {
            Due.is("edge(-1)", x.edge(-1), -2);
            Due.is("bounce(true, -1)", x.bounce(true, -1), -2);
            Due.is("slow(0)", x.slow(0), -1);
            Due.is("row(0, 0)", x.row(0, 0), -1);
            Due.nibbleThrows("nibble(0)", x, 0);
            Due.calibrateThrows("calibrate(0)", x, 0);
        }
        Due.is("edge(0)", x.edge(0), 0);
        Due.is("faults() as the 512th call", x.faults(), 0);
    }
}
