import java.util.ArrayList;
import java.util.List;

/**
 * "REFUSALS change nothing": a long run that uses every call answers the same with a refused call put in,
 * wherever that is; and for each call that can be refused a short run whose answers are written out.
 */
public final class RefusalsChangeNothingTest {
    private static final long LATEST = 1L << 60;
    /** Stands for the exception of nibble or of calibrate. */
    private static final long THROWS = Long.MIN_VALUE;

    private interface Call {
        long on(PulseRows x);
    }

    /** A call with what is known of the object just before it: what a refusal depends on. */
    private record Step(String name, Call call, Place before) {
    }

    private record Place(long lastEdge, long timeTold, int frames, int messages) {
    }

    /** A refused call and its answer; it is made only at places where it is refused. */
    private record Refused(String name, Call call, long due) {
    }

    private interface Refusals {
        void at(Place place, List<Refused> list);
    }

    private final List<Step> steps = new ArrayList<>();
    private long lastEdge = -1;
    private long timeTold = 0;
    private int frames = 0;
    private int messages = 0;

    public static void main(String[] args) {
        RefusalsChangeNothingTest run = new RefusalsChangeNothingTest();
        run.write();
        edgeRefused(run);
        nibbleRefused(run);
        slowRefused(run);
        rowRefusedByNumber(run);
        rowRefusedByWhat(run);
        calibrateNotTaken(run);
        calibrateRefused(run);
        bounceRefused(run);
        Due.end();
    }

    private static void edgeRefused(RefusalsChangeNothingTest run) {
        Due.sentence("REFUSALS \"change nothing\": 2 edge, -2");
        PulseRows x = new PulseRows(20);
        x.edge(-1);
        x.edge(LATEST + 1);
        Due.is("edge(1000): the first one still", x.edge(1000), 0);
        x.edge(1000);
        x.edge(440);
        Due.is("edge(1560): 560 behind 1000", x.edge(1560), 0);
        Due.is("faults()", x.faults(), 0);
        Due.is("edge(1559)", x.edge(1559), -2);
        Due.is("edge(1675): the status, 115 behind 1560", x.edge(1675), 1);
        Due.is("edge(1675) again", x.edge(1675), -2);
        Due.is("edge(2^60 + 1)", x.edge(LATEST + 1), -2);
        Due.is("edge(-1)", x.edge(-1), -2);
        Due.is("edge(1949): 274 behind 1675", x.edge(1949), 2);
        Due.is("faults()", x.faults(), 0);
        run.holdsWith((place, list) -> {
            for (long t : new long[] {-1, Long.MIN_VALUE, LATEST + 1, Long.MAX_VALUE}) {
                list.add(new Refused("edge(" + t + ")", y -> y.edge(t), -2));
            }
            for (long t : new long[] {place.lastEdge(), place.lastEdge() - 1, 0}) {
                if (place.lastEdge() >= 0 && t <= place.lastEdge()) {
                    list.add(new Refused("edge(" + t + ")", y -> y.edge(t), -2));
                }
            }
        });
    }

    private static void nibbleRefused(RefusalsChangeNothingTest run) {
        Due.sentence("REFUSALS \"change nothing\": 3 nibble, its exception");
        Wire w = new Wire(20, 10);
        w.calibration();
        w.nibble(7);
        Due.nibbleThrows("nibble(0) with no frame done", w.x, 0);
        Due.is("edge: the frame goes on", w.nibble(3), 2);
        w.pulse(1);
        w.rightFrame(4, 0x123456);
        Due.nibbleThrows("nibble(-1)", w.x, -1);
        Due.nibbleThrows("nibble(8)", w.x, 8);
        Due.is("nibble(0)", w.x.nibble(0), 4);
        Due.is("nibble(7)", w.x.nibble(7), 2);
        Due.is("faults(): the bad nibble alone", w.x.faults(), 1);
        run.holdsWith((place, list) -> {
            for (int i : new int[] {-1, 8, Integer.MIN_VALUE, Integer.MAX_VALUE}) {
                list.add(new Refused("nibble(" + i + ")", y -> nibble(y, i), THROWS));
            }
            for (int i = 0; i < 8 && place.frames() == 0; i++) {
                int inside = i;
                list.add(new Refused("nibble(" + i + ")", y -> nibble(y, inside), THROWS));
            }
        });
    }

    private static void slowRefused(RefusalsChangeNothingTest run) {
        Due.sentence("REFUSALS \"change nothing\": 5 slow, -1");
        Wire w = new Wire(20, 3);
        w.slowBits(Wire.slowRow(3, 0xA5), 15, 1);
        Due.is("slow(0) before the sixteenth", w.x.slow(0), -1);
        Due.is("slow(-2)", w.x.slow(-2), -1);
        w.slowBits(Wire.slowRow(3, 0xA5), 0, 0);
        Due.is("slow(-1)", w.x.slow(-1), 1);
        Due.is("slow(1)", w.x.slow(1), -1);
        Due.is("slow(0)", w.x.slow(0), 0x3A5);
        Due.is("faults()", w.x.faults(), 0);
        run.holdsWith((place, list) -> {
            for (int i : new int[] {place.messages(), place.messages() + 1, -2, Integer.MIN_VALUE, Integer.MAX_VALUE}) {
                list.add(new Refused("slow(" + i + ")", y -> y.slow(i), -1));
            }
        });
    }

    private static void rowRefusedByNumber(RefusalsChangeNothingTest run) {
        Due.sentence("REFUSALS \"change nothing\": 6 row, -1");
        Wire w = new Wire(20, 10);
        Due.is("row(0, 0)", w.x.row(0, 0), -1);
        w.rightFrame(4, 0x123456);
        Due.is("row(1, 0)", w.x.row(1, 0), -1);
        Due.is("row(-2, 0)", w.x.row(-2, 0), -1);
        Due.is("row(-1, 1)", w.x.row(-1, 1), -1);
        Due.is("row(-1, 0)", w.x.row(-1, 0), 1);
        Due.is("row(0, 1)", w.x.row(0, 1), 0x123456);
        Due.is("faults()", w.x.faults(), 0);
        run.holdsWith((place, list) -> {
            for (int i : new int[] {place.frames(), place.frames() + 1, -2, Integer.MIN_VALUE, Integer.MAX_VALUE}) {
                for (int what = -1; what <= 3; what++) {
                    int any = what;
                    list.add(new Refused("row(" + i + ", " + what + ")", y -> y.row(i, any), -1));
                }
            }
            for (int what : new int[] {-1, 1, 2, 3}) {
                list.add(new Refused("row(-1, " + what + ")", y -> y.row(-1, what), -1));
            }
        });
    }

    private static void rowRefusedByWhat(RefusalsChangeNothingTest run) {
        Due.sentence("REFUSALS \"change nothing\": 6 row, -2");
        Wire w = new Wire(20, 10);
        w.rightFrame(4, 0x123456);
        Due.is("row(0, 3)", w.x.row(0, 3), -2);
        Due.is("row(0, -1)", w.x.row(0, -1), -2);
        Due.is("row(0, 0)", w.x.row(0, 0), 4);
        Due.is("row(0, 2)", w.x.row(0, 2), 1);
        Due.is("faults()", w.x.faults(), 0);
        run.holdsWith((place, list) -> {
            for (int what : new int[] {-1, 3, Integer.MIN_VALUE, Integer.MAX_VALUE}) {
                for (int i = 0; i < place.frames(); i += Math.max(1, place.frames() - 1)) {
                    int known = i;
                    list.add(new Refused("row(" + i + ", " + what + ")", y -> y.row(known, what), -2));
                }
            }
        });
    }

    private static void calibrateNotTaken(RefusalsChangeNothingTest run) {
        Due.sentence("7 calibrate: \"nothing changes\", with a length that is not TAKEN");
        PulseRows x = new PulseRows(20);
        Due.is("calibrate(55)", x.calibrate(55), 0);
        Due.is("calibrate(56001)", x.calibrate(56001), 0);
        x.edge(0);
        Due.is("edge(56)", x.edge(56), 0);
        Due.is("calibrate(44): 12 is more than a fifth of 56", x.calibrate(44), 0);
        Due.is("calibrate(68): so here", x.calibrate(68), 0);
        Due.is("edge(68): the frame goes on", x.edge(68), 1);
        Due.is("faults()", x.faults(), 0);
        run.holdsWith((place, list) -> {
            for (long length : new long[] {1, 55, 56001, -1, -560, Long.MIN_VALUE, Long.MAX_VALUE}) {
                list.add(new Refused("calibrate(" + length + ")", y -> calibrate(y, length), 0));
            }
        });
    }

    private static void calibrateRefused(RefusalsChangeNothingTest run) {
        Due.sentence("REFUSALS \"change nothing\": 7 calibrate, its exception");
        PulseRows x = new PulseRows(20);
        Due.calibrateThrows("calibrate(0)", x, 0);
        x.edge(0);
        Due.calibrateThrows("calibrate(0)", x, 0);
        x.edge(56);
        Due.calibrateThrows("calibrate(0)", x, 0);
        Due.is("edge(68): the frame goes on", x.edge(68), 1);
        Due.is("calibrate(67)", x.calibrate(67), 835);
        Due.is("faults()", x.faults(), 0);
        run.holdsWith((place, list) -> list.add(new Refused("calibrate(0)", y -> calibrate(y, 0), THROWS)));
    }

    private static void bounceRefused(RefusalsChangeNothingTest run) {
        Due.sentence("REFUSALS \"change nothing\": 9 bounce, -2");
        PulseRows x = new PulseRows(20);
        x.bounce(true, 20);
        Due.is("bounce(false, 19)", x.bounce(false, 19), -2);
        Due.is("bounce(false, -1)", x.bounce(false, -1), -2);
        Due.is("bounce(false, 2^60 + 1)", x.bounce(false, LATEST + 1), -2);
        Due.is("bounce(true, 2^60 + 1)", x.bounce(true, LATEST + 1), -2);
        Due.is("bounce(true, 19)", x.bounce(true, 19), -2);
        Due.is("bounce(true, 29)", x.bounce(true, 29), 0);
        Due.is("bounce(true, 30): refused levels were not told", x.bounce(true, 30), 1);
        Due.is("faults()", x.faults(), 0);
        run.holdsWith((place, list) -> {
            for (long t : new long[] {-1, Long.MIN_VALUE, LATEST + 1, Long.MAX_VALUE, place.timeTold() - 1}) {
                list.add(new Refused("bounce(true, " + t + ")", y -> y.bounce(true, t), -2));
                list.add(new Refused("bounce(false, " + t + ")", y -> y.bounce(false, t), -2));
            }
        });
    }

    private static long nibble(PulseRows x, int i) {
        try {
            return x.nibble(i);
        } catch (ArrayIndexOutOfBoundsException e) {
            return THROWS;
        }
    }

    private static long calibrate(PulseRows x, long length) {
        try {
            return x.calibrate(length);
        } catch (ArithmeticException e) {
            return THROWS;
        }
    }

    /** Puts each refused call in at each place of the run. */
    private void holdsWith(Refusals refusals) {
        long[] due = answers();
        for (int at = 0; at < steps.size(); at++) {
            List<Refused> list = new ArrayList<>();
            refusals.at(steps.get(at).before(), list);
            for (Refused refused : list) {
                holdsWith(refused, at, due);
            }
        }
    }

    private long[] answers() {
        PulseRows x = new PulseRows(20);
        long[] answers = new long[steps.size()];
        for (int k = 0; k < answers.length; k++) {
            answers[k] = steps.get(k).call().on(x);
        }
        return answers;
    }

    private void holdsWith(Refused refused, int at, long[] due) {
        PulseRows x = new PulseRows(20);
        for (int k = 0; k < due.length; k++) {
            if (k == at) {
                Due.is(refused.name() + " before call " + k, refused.call().on(x), refused.due());
            }
            long got = steps.get(k).call().on(x);
            if (got != due[k]) {
                Due.is("call " + k + ", " + steps.get(k).name() + ", behind a refused " + refused.name(), got, due[k]);
                return;
            }
        }
    }

    private void add(String name, Call call) {
        steps.add(new Step(name, call, new Place(lastEdge, timeTold, frames, messages)));
    }

    /** 380 calls or so: every kind of frame and fault, and a look at all that may have changed at the end. */
    private void write() {
        bounce(true, 3);
        pulse(6);
        pulse(55);
        bounce(true, 12);
        turn(true, false);
        row(5, 0xBC0DE7, Wire.checkOf(0xBC0DE7));
        bounce(true, 13);
        int row = Wire.slowRow(9, 0x6D);
        for (int bit = 15; bit >= 0; bit--) {
            row((bit == 15 ? 8 : 0) + (row >> bit & 1) * 4, bit * 0x10203, Wire.checkOf(bit * 0x10203));
            between(bit);
        }
        messages++;
        look();
        turn(true, true);
        turn(false, false);
        row(8, 0x77, Wire.checkOf(0x77) ^ 1);
        look();
        bounce(false, 40);
        int wrong = Wire.slowRow(1, 2) ^ 1;
        for (int bit = 15; bit >= 0; bit--) {
            row((bit == 15 ? 8 : 0) + (wrong >> bit & 1) * 4, bit, Wire.checkOf(bit));
        }
        bounce(false, 50);
        turn(false, true);
        pulse(1);
        add("marked()", x -> x.marked() ? 1 : 0);
        pulse(1);
        look();
        Due.is("calls of the run and one refused", steps.size() + 1 <= 512, true);
    }

    private void between(int bit) {
        if (bit == 12) {
            pulse(1);
        } else if (bit == 9) {
            pulse(560);
            pulse(150);
            pulse(10);
        } else if (bit == 6) {
            bounce(false, 20);
            bounce(true, 20);
        } else if (bit == 3) {
            turn(true, true);
        }
    }

    private void pulse(long length) {
        long t = lastEdge + length;
        add("edge(" + t + ")", x -> x.edge(t));
        lastEdge = t;
    }

    /** A frame with the shortest and the longest pulses that a calibration of 560 allows, in turn. */
    private void row(int status, int data, int check) {
        pulse(560);
        pulse(10 * (12 + status) - 5);
        for (int shift = 20; shift >= 0; shift -= 4) {
            pulse(10 * (12 + (data >> shift & 15)) + (shift % 8 == 0 ? 4 : -5));
        }
        pulse(10 * (12 + check) + 4);
        frames++;
    }

    private void bounce(boolean level, long t) {
        add("bounce(" + level + ", " + t + ")", x -> x.bounce(level, t));
        timeTold = t;
    }

    private void turn(boolean a, boolean b) {
        add("turn(" + a + ", " + b + ")", x -> x.turn(a, b));
    }

    private void look() {
        for (int i = 0; i < 8; i++) {
            int place = i;
            add("nibble(" + i + ")", x -> nibble(x, place));
        }
        add("row(-1, 0)", x -> x.row(-1, 0));
        add("row(0, 1)", x -> x.row(0, 1));
        int last = frames - 1;
        for (int what = 0; what <= 2; what++) {
            int any = what;
            add("row(" + last + ", " + what + ")", x -> x.row(last, any));
        }
        add("slow(-1)", x -> x.slow(-1));
        add("slow(0)", x -> x.slow(0));
        for (long length : new long[] {447, 448, 672, 673}) {
            add("calibrate(" + length + ")", x -> calibrate(x, length));
        }
        add("check(291)", x -> x.check(291));
        add("parity(7)", x -> x.parity(7));
        add("faults()", PulseRows::faults);
        add("marked()", x -> x.marked() ? 1 : 0);
    }
}
