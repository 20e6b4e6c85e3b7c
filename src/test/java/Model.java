import java.math.BigInteger;
import java.util.ArrayList;
import java.util.List;

/** The document once more, said as slowly and plainly as can be: it keeps all that was told and counts anew. */
final class Model {
    private static final BigInteger LATEST = BigInteger.TWO.pow(60);
    private static final List<Integer> T = List.of(0, 13, 7, 10, 14, 3, 9, 4, 1, 12, 6, 11, 15, 2, 8, 5);

    private final int tolerance;
    private final List<Long> edges = new ArrayList<>();
    private final List<Long> taken = new ArrayList<>();
    private final List<List<Integer>> done = new ArrayList<>();
    private final List<Integer> messages = new ArrayList<>();
    /** One letter an event: F a fault, R a frame that is done with a right check. */
    private final StringBuilder events = new StringBuilder();
    private final List<Boolean> levels = new ArrayList<>(List.of(false));
    private final List<Long> times = new ArrayList<>(List.of(0L));
    private boolean state = false;
    private String tracks = "00";
    private int steps = 0;
    /** The nibbles of the frame that goes on, or null while a calibration is awaited. */
    private List<Integer> open = null;
    /** The slow row that goes on, or null. */
    private String bits = null;

    Model(int tolerance) {
        this.tolerance = tolerance < 1 || tolerance > 30 ? 20 : tolerance;
    }

    /** The length of the calibration taken last, 0 if there was none. */
    long lastTaken() {
        return taken.isEmpty() ? 0 : taken.get(taken.size() - 1);
    }

    /** How many nibbles the frame that goes on has, -1 while a calibration is awaited. */
    int openNibbles() {
        return open == null ? -1 : open.size();
    }

    private static boolean outside(long t) {
        return t < 0 || BigInteger.valueOf(t).compareTo(LATEST) > 0;
    }

    long edge(long t) {
        if (outside(t) || !edges.isEmpty() && t <= edges.get(edges.size() - 1)) {
            return -2;
        }
        edges.add(t);
        if (edges.size() == 1) {
            return 0;
        }
        long length = t - edges.get(edges.size() - 2);
        if (open == null) {
            calibration(length);
            return 0;
        }
        BigInteger m = BigInteger.valueOf(taken.get(taken.size() - 1));
        BigInteger value = BigInteger.valueOf(length).multiply(BigInteger.valueOf(56))
            .add(m.divide(BigInteger.TWO)).divide(m).subtract(BigInteger.valueOf(12));
        if (value.signum() < 0 || value.compareTo(BigInteger.valueOf(15)) > 0) {
            events.append('F');
            open = null;
            return 0;
        }
        open.add(value.intValue());
        if (open.size() < 8) {
            return open.size();
        }
        done.add(open);
        open = null;
        frameDone(done.get(done.size() - 1));
        return 8;
    }

    private void calibration(long length) {
        if (wouldBeTaken(length)) {
            taken.add(length);
            open = new ArrayList<>();
        } else {
            events.append('F');
        }
    }

    private boolean wouldBeTaken(long length) {
        if (length < 56 || length > 56000) {
            return false;
        }
        if (taken.isEmpty()) {
            return true;
        }
        long before = taken.get(taken.size() - 1);
        long away = length > before ? length - before : before - length;
        return 100 * away <= tolerance * before;
    }

    private static int checking(List<Integer> nibbles) {
        int c = 5;
        for (int n : nibbles) {
            c = T.get(c) ^ n;
        }
        return T.get(c);
    }

    private static boolean right(List<Integer> frame) {
        return checking(frame.subList(1, 7)) == frame.get(7);
    }

    private void frameDone(List<Integer> frame) {
        if (!right(frame)) {
            events.append('F');
            bits = null;
            return;
        }
        events.append('R');
        int status = frame.get(0);
        if (status / 8 == 1) {
            bits = "";
        }
        if (bits == null) {
            return;
        }
        bits += status / 4 % 2;
        if (bits.length() == 16) {
            List<Integer> nibbles = new ArrayList<>();
            for (int k = 0; k < 16; k += 4) {
                nibbles.add(Integer.parseInt(bits.substring(k, k + 4), 2));
            }
            if (checking(nibbles.subList(0, 3)) == nibbles.get(3)) {
                messages.add(256 * nibbles.get(0) + Integer.parseInt(bits.substring(4, 12), 2));
            } else {
                events.append('F');
            }
            bits = null;
        }
    }

    /** Long.MIN_VALUE stands for the exception, here and in calibrate. */
    long nibble(int i) {
        if (i < 0 || i > 7 || done.isEmpty()) {
            return Long.MIN_VALUE;
        }
        return done.get(done.size() - 1).get(i);
    }

    long check(int row) {
        List<Integer> nibbles = new ArrayList<>();
        if (row != 0) {
            for (char digit : Integer.toHexString(row).toCharArray()) {
                nibbles.add(Character.digit(digit, 16));
            }
        }
        return checking(nibbles);
    }

    long slow(int i) {
        if (i == -1) {
            return messages.size();
        }
        return i < 0 || i >= messages.size() ? -1 : messages.get(i);
    }

    long row(int i, int what) {
        if (i == -1 && what == 0) {
            return done.size();
        }
        if (i < 0 || i >= done.size()) {
            return -1;
        }
        List<Integer> frame = done.get(i);
        if (what == 0) {
            return frame.get(0);
        }
        if (what == 1) {
            long data = 0;
            for (int n : frame.subList(1, 7)) {
                data = 16 * data + n;
            }
            return data;
        }
        return what == 2 ? (right(frame) ? 1 : 0) : -2;
    }

    long calibrate(long length) {
        if (length == 0) {
            return Long.MIN_VALUE;
        }
        return wouldBeTaken(length) ? 56000 / length : 0;
    }

    long parity(int word) {
        return Integer.toBinaryString(word).replace("0", "").length() % 2;
    }

    long bounce(boolean level, long t) {
        if (outside(t) || t < times.get(times.size() - 1)) {
            return -2;
        }
        levels.add(level);
        times.add(t);
        int first = levels.size() - 1;
        while (first > 0 && levels.get(first - 1) == level) {
            first--;
        }
        if (state != level && t - times.get(first) >= 10) {
            state = level;
            return 1;
        }
        return 0;
    }

    long faults() {
        return events.toString().replace("R", "").length();
    }

    long marked() {
        return events.indexOf("FFF") >= 0 ? 1 : 0;
    }

    long turn(boolean a, boolean b) {
        String to = (a ? "1" : "0") + (b ? "1" : "0");
        String move = tracks + to;
        tracks = to;
        if ("0010 1011 1101 0100".contains(move)) {
            steps++;
        } else if ("1000 1110 0111 0001".contains(move)) {
            steps--;
        } else if (!move.substring(0, 2).equals(to)) {
            events.append('F');
        }
        return steps;
    }
}
