/**
 * Reads sensors on one or two wires: frames of pulses with a slow channel over
 * sixteen of them, words with parity, a switch that bounces and a wheel that turns.
 */
public final class PulseRows {
    private static final int UNKNOWN = -1;
    private static final int OUTSIDE = -2;
    private static final long LATEST_TIME = 1L << 60;

    private static final int USUAL_TOLERANCE = 20;
    private static final int LARGEST_TOLERANCE = 30;

    private static final long CALIBRATION_UNITS = 56;
    private static final long SHORTEST_CALIBRATION = 56;
    private static final long LONGEST_CALIBRATION = 56000;

    private static final long NIBBLE_UNITS = 12;
    private static final int LARGEST_NIBBLE = 15;
    private static final int BAD = -1;
    private static final int FRAME_NIBBLES = 8;
    private static final int DATA_NIBBLES = 6;

    /** A frame needs nine edges, so 512 calls bring 56 frames; what comes later is free. */
    private static final int FRAMES_KEPT = 64;

    private static final int CHECK_START = 5;
    private static final int[] CHECK_TABLE = {0, 13, 7, 10, 14, 3, 9, 4, 1, 12, 6, 11, 15, 2, 8, 5};

    private final int tolerance;
    private final FaultLog faultLog;
    private final SlowChannel slowChannel;
    private final BouncingSwitch bouncingSwitch;
    private final Wheel wheel;

    /** The frames that were done, each as its eight nibbles, the status the highest. */
    private final int[] frames;
    private int frameCount;

    /** The time of the last edge; -1, before all times, where there was none. */
    private long lastEdge;
    /** The length of the calibration that was taken last; 0 before the first one. */
    private long calibration;
    private boolean inFrame;
    private int nibbles;
    private int nibbleCount;

    public PulseRows(int tolerance) {
        boolean known = tolerance >= 1 && tolerance <= LARGEST_TOLERANCE;
        this.tolerance = known ? tolerance : USUAL_TOLERANCE;
        this.faultLog = new FaultLog();
        this.slowChannel = new SlowChannel();
        this.bouncingSwitch = new BouncingSwitch();
        this.wheel = new Wheel();
        this.frames = new int[FRAMES_KEPT];
        this.lastEdge = -1;
    }

    public int edge(long t) {
        if (isOutsideTime(t) || t <= lastEdge) {
            return OUTSIDE;
        }
        if (inFrame) {
            takeNibble(t - lastEdge);
        } else if (lastEdge >= 0) {
            takeCalibration(t - lastEdge);
        }
        lastEdge = t;
        return nibbleCount;
    }

    public int nibble(int i) throws ArrayIndexOutOfBoundsException {
        if (i < 0 || i >= FRAME_NIBBLES || !hasFrame(frameCount - 1)) {
            throw new ArrayIndexOutOfBoundsException("no such nibble");
        }
        return nibbleAt(frames[frameCount - 1], FRAME_NIBBLES - 1 - i);
    }

    public int check(int row) {
        int count = 0;
        while (count < FRAME_NIBBLES && row >>> (4 * count) != 0) {
            count++;
        }
        return checking(row, count);
    }

    public int slow(int i) {
        return i == -1 ? slowChannel.size() : slowChannel.messageAt(i);
    }

    public int row(int i, int what) {
        if (i == -1 && what == 0) {
            return frameCount;
        }
        if (!hasFrame(i)) {
            return UNKNOWN;
        }
        int frame = frames[i];
        switch (what) {
            case 0:
                return statusOf(frame);
            case 1:
                return dataOf(frame);
            case 2:
                return isRight(frame) ? 1 : 0;
            default:
                return OUTSIDE;
        }
    }

    public int calibrate(long length) throws ArithmeticException {
        if (length == 0) {
            throw new ArithmeticException("a calibration of length 0");
        }
        return isTaken(length) ? (int) (LONGEST_CALIBRATION / length) : 0;
    }

    public int parity(int word) {
        return Integer.bitCount(word) & 1;
    }

    public int bounce(boolean level, long t) {
        if (isOutsideTime(t) || t < bouncingSwitch.lastTime()) {
            return OUTSIDE;
        }
        return bouncingSwitch.tell(level, t) ? 1 : 0;
    }

    public int faults() {
        return faultLog.total();
    }

    public boolean marked() {
        return faultLog.hasMark();
    }

    public int turn(boolean a, boolean b) {
        if (!wheel.moveTo(a, b)) {
            faultLog.add();
        }
        return wheel.position();
    }

    private static boolean isOutsideTime(long t) {
        return t < 0 || t > LATEST_TIME;
    }

    private boolean hasFrame(int i) {
        return i >= 0 && i < frameCount && i < frames.length;
    }

    private void takeCalibration(long length) {
        nibbles = 0;
        nibbleCount = 0;
        inFrame = isTaken(length);
        if (inFrame) {
            calibration = length;
        } else {
            faultLog.add();
        }
    }

    private boolean isTaken(long length) {
        if (length < SHORTEST_CALIBRATION || length > LONGEST_CALIBRATION) {
            return false;
        }
        return calibration == 0 || 100 * Math.abs(length - calibration) <= tolerance * calibration;
    }

    private void takeNibble(long length) {
        int value = nibbleOf(length, calibration);
        if (value == BAD) {
            inFrame = false;
            nibbleCount = 0;
            faultLog.add();
            return;
        }
        nibbles = (nibbles << 4) | value;
        nibbleCount++;
        if (nibbleCount == FRAME_NIBBLES) {
            inFrame = false;
            finishFrame(nibbles);
        }
    }

    private static int nibbleOf(long length, long calibration) {
        // A pulse as long as the calibration is bad anyhow, and 56 times a longer one may wrap around.
        if (calibration <= 0 || length >= calibration) {
            return BAD;
        }
        long units = (CALIBRATION_UNITS * length + calibration / 2) / calibration;
        long value = units - NIBBLE_UNITS;
        return value < 0 || value > LARGEST_NIBBLE ? BAD : (int) value;
    }

    private void finishFrame(int frame) {
        keepFrame(frame);
        if (!isRight(frame)) {
            slowChannel.dropRow();
            faultLog.add();
            return;
        }
        // The right frame comes before the fault that its slow bit may bring, so it ends the faults before.
        faultLog.endStreak();
        if (!slowChannel.take(statusOf(frame))) {
            faultLog.add();
        }
    }

    private void keepFrame(int frame) {
        if (frameCount < frames.length) {
            frames[frameCount] = frame;
            frameCount++;
        }
    }

    private static int statusOf(int frame) {
        return nibbleAt(frame, FRAME_NIBBLES - 1);
    }

    private static int dataOf(int frame) {
        return (frame >>> 4) & 0xFFFFFF;
    }

    private static boolean isRight(int frame) {
        return checking(dataOf(frame), DATA_NIBBLES) == nibbleAt(frame, 0);
    }

    private static int nibbleAt(int row, int place) {
        return (row >>> (4 * place)) & 15;
    }

    private static int checking(int row, int count) {
        int c = CHECK_START;
        for (int place = count - 1; place >= 0; place--) {
            c = CHECK_TABLE[c & 15] ^ nibbleAt(row, place);
        }
        return CHECK_TABLE[c & 15];
    }

    private static final class FaultLog {
        private static final int STREAK_THAT_MARKS = 3;

        private int count;
        private int streak;
        private boolean mark;

        void add() {
            count++;
            streak++;
            if (streak >= STREAK_THAT_MARKS) {
                mark = true;
            }
        }

        void endStreak() {
            streak = 0;
        }

        int total() {
            return count;
        }

        boolean hasMark() {
            return mark;
        }
    }

    private static final class SlowChannel {
        private static final int BEGINNING = 8;
        private static final int DATA_BIT = 4;
        private static final int ROW_BITS = 16;
        private static final int CHECKED_NIBBLES = 3;

        private final int[] messages = new int[FRAMES_KEPT / ROW_BITS];
        private int messageCount;
        private int bits;
        /** How many bits the row has; 0 where no row has begun. */
        private int bitCount;

        /** Answers false if this status ends a row whose check is wrong. */
        boolean take(int status) {
            if ((status & BEGINNING) != 0) {
                dropRow();
            } else if (bitCount == 0) {
                return true;
            }
            bits = (bits << 1) | ((status & DATA_BIT) != 0 ? 1 : 0);
            bitCount++;
            if (bitCount < ROW_BITS) {
                return true;
            }
            int whole = bits;
            dropRow();
            return finishRow(whole);
        }

        void dropRow() {
            bits = 0;
            bitCount = 0;
        }

        int size() {
            return messageCount;
        }

        int messageAt(int i) {
            boolean there = i >= 0 && i < messageCount && i < messages.length;
            return there ? messages[i] : UNKNOWN;
        }

        private boolean finishRow(int whole) {
            // The identity's four bits stand right above the eight of data: together they are the message.
            int message = whole >>> 4;
            if (checking(message, CHECKED_NIBBLES) != nibbleAt(whole, 0)) {
                return false;
            }
            if (messageCount < messages.length) {
                messages[messageCount] = message;
                messageCount++;
            }
            return true;
        }
    }

    private static final class BouncingSwitch {
        private static final long SETTLING_TIME = 10;

        private boolean state;
        private boolean lastLevel;
        private long levelSince;
        private long toldLast;

        long lastTime() {
            return toldLast;
        }

        /** Answers whether the state becomes the level by this. */
        boolean tell(boolean level, long t) {
            toldLast = t;
            if (level != lastLevel) {
                lastLevel = level;
                levelSince = t;
            }
            if (level == state || t - levelSince < SETTLING_TIME) {
                return false;
            }
            state = level;
            return true;
        }
    }

    private static final class Wheel {
        private boolean trackA;
        private boolean trackB;
        private int steps;

        /** Answers false if both tracks change at once. */
        boolean moveTo(boolean a, boolean b) {
            boolean changesA = a != trackA;
            boolean changesB = b != trackB;
            // Upwards a changes where the tracks are alike, and b where they differ.
            boolean alike = trackA == trackB;
            trackA = a;
            trackB = b;
            if (changesA && changesB) {
                return false;
            }
            if (changesA || changesB) {
                steps += changesA == alike ? 1 : -1;
            }
            return true;
        }

        int position() {
            return steps;
        }
    }
}
