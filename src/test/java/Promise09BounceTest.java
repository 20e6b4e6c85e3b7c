public final class Promise09BounceTest {
    private static final long LATEST = 1L << 60;

    public static void main(String[] args) {
        tenOrMore();
        sinceTheFirstTime();
        noOtherOneInBetween();
        onlyIfItsStateBecomesThat();
        atFirstFalseAtTimeZero();
        timeBelowZero();
        timeAboveTheLatest();
        timeLessThanTheOneToldLast();
        timesAreNotTheEdges();
        Due.end();
    }

    private static void tenOrMore() {
        Due.sentence("9 bounce: \"it is 10 or more\"");
        for (long start : new long[] {0, 1, 5, 1000, LATEST - 11}) {
            becomes(start, 0, 0);
            becomes(start, 1, 0);
            becomes(start, 9, 0);
            becomes(start, 10, 1);
            becomes(start, 11, 1);
        }
        becomes(0, LATEST, 1);
        becomes(1, LATEST - 1, 1);
    }

    private static void becomes(long start, long later, int due) {
        PulseRows x = new PulseRows(20);
        Due.is("bounce(true, " + start + ")", x.bounce(true, start), 0);
        Due.is("bounce(true, " + start + " + " + later + ")", x.bounce(true, start + later), due);
    }

    private static void sinceTheFirstTime() {
        Due.sentence("9 bounce: \"since the first time at which it was told that level\"");
        PulseRows x = new PulseRows(20);
        x.bounce(true, 5);
        Due.is("bounce(true, 9)", x.bounce(true, 9), 0);
        Due.is("bounce(true, 14)", x.bounce(true, 14), 0);
        Due.is("bounce(true, 15), 10 since the first and 1 since the last", x.bounce(true, 15), 1);
        x.bounce(false, 100);
        Due.is("bounce(false, 105)", x.bounce(false, 105), 0);
        Due.is("bounce(false, 109)", x.bounce(false, 109), 0);
        Due.is("bounce(false, 110)", x.bounce(false, 110), 1);
    }

    private static void noOtherOneInBetween() {
        Due.sentence("9 bounce: \"with no other one in between\"");
        PulseRows x = new PulseRows(20);
        x.bounce(true, 0);
        x.bounce(false, 9);
        Due.is("bounce(true, 10): 10 since 0, but false in between", x.bounce(true, 10), 0);
        Due.is("bounce(true, 19)", x.bounce(true, 19), 0);
        Due.is("bounce(true, 20)", x.bounce(true, 20), 1);
        // Another level at the very same time is in between too.
        x.bounce(false, 30);
        x.bounce(true, 35);
        x.bounce(false, 35);
        Due.is("bounce(false, 40)", x.bounce(false, 40), 0);
        Due.is("bounce(false, 44)", x.bounce(false, 44), 0);
        Due.is("bounce(false, 45)", x.bounce(false, 45), 1);
        // So is one that held long enough to keep the state as it was.
        x.bounce(true, 50);
        x.bounce(false, 55);
        Due.is("bounce(false, 90): its state is false already", x.bounce(false, 90), 0);
        Due.is("bounce(true, 91)", x.bounce(true, 91), 0);
        Due.is("bounce(true, 100)", x.bounce(true, 100), 0);
        Due.is("bounce(true, 101)", x.bounce(true, 101), 1);
    }

    private static void onlyIfItsStateBecomesThat() {
        Due.sentence("9 bounce: \"1 if its state becomes that by this\", \"0 otherwise\"");
        PulseRows x = new PulseRows(20);
        x.bounce(true, 5);
        Due.is("bounce(true, 15)", x.bounce(true, 15), 1);
        Due.is("bounce(true, 15) again", x.bounce(true, 15), 0);
        Due.is("bounce(true, 16)", x.bounce(true, 16), 0);
        Due.is("bounce(true, 25)", x.bounce(true, 25), 0);
        Due.is("bounce(true, 400)", x.bounce(true, 400), 0);
        Due.is("bounce(false, 401)", x.bounce(false, 401), 0);
        Due.is("bounce(false, 2000)", x.bounce(false, 2000), 1);
        Due.is("bounce(false, 2010)", x.bounce(false, 2010), 0);
    }

    private static void atFirstFalseAtTimeZero() {
        Due.sentence("9 bounce: \"Its state and level are at first false, at time 0\"");
        PulseRows x = new PulseRows(20);
        Due.is("bounce(false, 0) at first", x.bounce(false, 0), 0);
        Due.is("bounce(false, 9)", x.bounce(false, 9), 0);
        Due.is("bounce(false, 10): its state is false already", x.bounce(false, 10), 0);
        Due.is("bounce(false, 11)", x.bounce(false, 11), 0);
        for (long t : new long[] {0, 9, 10, 11, 1000, LATEST}) {
            PulseRows y = new PulseRows(20);
            Due.is("bounce(true, " + t + ") at first: its level was false", y.bounce(true, t), 0);
        }
        for (long t : new long[] {9, 10, 11, 1000, LATEST}) {
            PulseRows y = new PulseRows(20);
            Due.is("bounce(false, " + t + ") at first: its state is false already", y.bounce(false, t), 0);
        }
        PulseRows z = new PulseRows(20);
        Due.is("bounce(true, 0) at first", z.bounce(true, 0), 0);
        Due.is("bounce(true, 9)", z.bounce(true, 9), 0);
        Due.is("bounce(true, 10)", z.bounce(true, 10), 1);
    }

    private static void timeBelowZero() {
        Due.sentence("9 bounce: \"-2 t is below 0\"");
        for (boolean level : new boolean[] {false, true}) {
            PulseRows x = new PulseRows(20);
            for (long t : new long[] {-1, -2, -10, Integer.MIN_VALUE, -LATEST, Long.MIN_VALUE}) {
                Due.is("bounce(" + level + ", " + t + ")", x.bounce(level, t), -2);
            }
            Due.is("bounce(" + level + ", 0)", x.bounce(level, 0), 0);
            Due.is("bounce(" + level + ", -1) behind 0", x.bounce(level, -1), -2);
            Due.is("faults()", x.faults(), 0);
        }
    }

    private static void timeAboveTheLatest() {
        Due.sentence("9 bounce: -2 t is \"above 2^60\"");
        for (boolean level : new boolean[] {false, true}) {
            PulseRows x = new PulseRows(20);
            for (long t : new long[] {LATEST + 1, LATEST + 2, LATEST * 2, Long.MAX_VALUE}) {
                Due.is("bounce(" + level + ", " + t + ")", x.bounce(level, t), -2);
            }
            Due.is("bounce(true, 2^60 - 10)", x.bounce(true, LATEST - 10), 0);
            Due.is("bounce(true, 2^60 + 1)", x.bounce(true, LATEST + 1), -2);
            Due.is("bounce(true, 2^60)", x.bounce(true, LATEST), 1);
            Due.is("bounce(" + level + ", 2^60 + 1) behind 2^60", x.bounce(level, LATEST + 1), -2);
            Due.is("faults()", x.faults(), 0);
        }
    }

    private static void timeLessThanTheOneToldLast() {
        Due.sentence("9 bounce: -2 t is \"less than the time told last\"");
        PulseRows x = new PulseRows(20);
        x.bounce(true, 50);
        Due.is("bounce(true, 49)", x.bounce(true, 49), -2);
        Due.is("bounce(false, 49)", x.bounce(false, 49), -2);
        Due.is("bounce(false, 0)", x.bounce(false, 0), -2);
        Due.is("bounce(true, 50)", x.bounce(true, 50), 0);
        Due.is("bounce(true, 51)", x.bounce(true, 51), 0);
        Due.is("bounce(true, 50) behind 51", x.bounce(true, 50), -2);
        Due.is("bounce(true, 60)", x.bounce(true, 60), 1);
        Due.is("bounce(false, 59)", x.bounce(false, 59), -2);
        Due.is("bounce(false, 60)", x.bounce(false, 60), 0);
        x.bounce(false, LATEST);
        Due.is("bounce(false, 2^60 - 1)", x.bounce(false, LATEST - 1), -2);
        Due.is("bounce(true, 2^60)", x.bounce(true, LATEST), 0);
        // A time that was refused was not told.
        PulseRows y = new PulseRows(20);
        y.bounce(false, LATEST + 1);
        Due.is("bounce(true, 0) behind a refused 2^60 + 1", y.bounce(true, 0), 0);
        Due.is("bounce(true, 10)", y.bounce(true, 10), 1);
    }

    private static void timesAreNotTheEdges() {
        Due.sentence("9 bounce: \"the time told last\" is not that of an EDGE");
        PulseRows x = new PulseRows(20);
        x.edge(1000);
        Due.is("bounce(true, 5) behind edge(1000)", x.bounce(true, 5), 0);
        Due.is("bounce(true, 5000)", x.bounce(true, 5000), 1);
        Due.is("edge(1560) behind bounce at 5000", x.edge(1560), 0);
        Due.is("faults()", x.faults(), 0);
    }
}
