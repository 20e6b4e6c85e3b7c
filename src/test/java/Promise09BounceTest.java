public final class Promise09BounceTest {
    private static final long LATEST = 1L << 60;

    public static void main(String[] args) {
        settlesAfterTen();
        startsFalseAtTimeZero();
        bouncesBeginAnew();
        comesBackToItsState();
        refusesTimes();
        refusalsTellNothing();
        timesAreNotTheEdges();
        Due.end();
    }

    private static void settlesAfterTen() {
        PulseRows x = new PulseRows(20);
        Due.is("bounce(true, 5)", x.bounce(true, 5), 0);
        Due.is("bounce(true, 14)", x.bounce(true, 14), 0);
        Due.is("bounce(true, 15)", x.bounce(true, 15), 1);
        Due.is("bounce(true, 15) again", x.bounce(true, 15), 0);
        Due.is("bounce(true, 40)", x.bounce(true, 40), 0);
        Due.is("bounce(false, 100)", x.bounce(false, 100), 0);
        Due.is("bounce(false, 109)", x.bounce(false, 109), 0);
        Due.is("bounce(false, 2000)", x.bounce(false, 2000), 1);
        Due.is("bounce(false, 2010)", x.bounce(false, 2010), 0);
        Due.is("faults()", x.faults(), 0);
    }

    private static void startsFalseAtTimeZero() {
        PulseRows x = new PulseRows(20);
        Due.is("bounce(false, 0) at first", x.bounce(false, 0), 0);
        Due.is("bounce(false, 10): it is false already", x.bounce(false, 10), 0);
        PulseRows y = new PulseRows(20);
        Due.is("bounce(true, 10) at first: told now, not at 0", y.bounce(true, 10), 0);
        Due.is("bounce(true, 19)", y.bounce(true, 19), 0);
        Due.is("bounce(true, 20)", y.bounce(true, 20), 1);
        PulseRows z = new PulseRows(20);
        Due.is("bounce(true, 0) at first", z.bounce(true, 0), 0);
        Due.is("bounce(true, 10)", z.bounce(true, 10), 1);
    }

    private static void bouncesBeginAnew() {
        PulseRows x = new PulseRows(20);
        x.bounce(true, 0);
        x.bounce(false, 9);
        Due.is("bounce(true, 9)", x.bounce(true, 9), 0);
        Due.is("bounce(true, 18)", x.bounce(true, 18), 0);
        Due.is("bounce(true, 19)", x.bounce(true, 19), 1);
        // Another level at the very same time is in between too.
        x.bounce(false, 30);
        x.bounce(true, 35);
        x.bounce(false, 35);
        Due.is("bounce(false, 44)", x.bounce(false, 44), 0);
        Due.is("bounce(false, 45)", x.bounce(false, 45), 1);
    }

    private static void comesBackToItsState() {
        PulseRows x = new PulseRows(20);
        x.bounce(true, 5);
        Due.is("bounce(false, 8)", x.bounce(false, 8), 0);
        Due.is("bounce(false, 30): its state never left false", x.bounce(false, 30), 0);
        Due.is("bounce(true, 40)", x.bounce(true, 40), 0);
        Due.is("bounce(true, 50)", x.bounce(true, 50), 1);
    }

    private static void refusesTimes() {
        PulseRows x = new PulseRows(20);
        for (long t : new long[] {-1, Long.MIN_VALUE, LATEST + 1, Long.MAX_VALUE}) {
            Due.is("bounce(true, " + t + ")", x.bounce(true, t), -2);
            Due.is("bounce(false, " + t + ")", x.bounce(false, t), -2);
        }
        x.bounce(true, 50);
        Due.is("bounce(true, 49)", x.bounce(true, 49), -2);
        Due.is("bounce(false, 0)", x.bounce(false, 0), -2);
        Due.is("bounce(true, 2^60)", x.bounce(true, LATEST), 1);
        Due.is("bounce(true, 2^60) again", x.bounce(true, LATEST), 0);
        Due.is("bounce(true, 2^60 - 1)", x.bounce(true, LATEST - 1), -2);
        Due.is("faults()", x.faults(), 0);
    }

    private static void refusalsTellNothing() {
        PulseRows x = new PulseRows(20);
        x.bounce(true, 20);
        x.bounce(false, 19);
        x.bounce(false, -1);
        x.bounce(false, LATEST + 1);
        Due.is("bounce(true, 29)", x.bounce(true, 29), 0);
        Due.is("bounce(true, 30): refused levels were not told", x.bounce(true, 30), 1);
    }

    private static void timesAreNotTheEdges() {
        PulseRows x = new PulseRows(20);
        x.edge(1000);
        Due.is("bounce(true, 5) behind edge(1000)", x.bounce(true, 5), 0);
        Due.is("bounce(true, 5000)", x.bounce(true, 5000), 1);
        Due.is("edge(1560) behind bounce at 5000", x.edge(1560), 0);
        Due.is("faults()", x.faults(), 0);
    }
}
