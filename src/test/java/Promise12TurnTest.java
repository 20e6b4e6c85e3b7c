public final class Promise12TurnTest {
    private static final boolean[][] ROUND = {{false, false}, {true, false}, {true, true}, {false, true}};

    public static void main(String[] args) {
        atFirstBothFalse();
        stepsUpAndRound();
        stepsDownTheOtherWay();
        stepsUpLessDown();
        bothChangeAtOnce();
        noChangeIsNoStep();
        everyMove();
        Due.end();
    }

    private static int turn(PulseRows x, int place) {
        return x.turn(ROUND[place][0], ROUND[place][1]);
    }

    private static void atFirstBothFalse() {
        Due.sentence("12 turn: \"Two tracks of a wheel, at first both false\"");
        int[] due = {0, 1, 0, -1};
        for (int place = 0; place < 4; place++) {
            PulseRows x = new PulseRows(20);
            Due.is("a first turn to place " + place, turn(x, place), due[place]);
            Due.is("faults() behind it", x.faults(), place == 2 ? 1 : 0);
        }
    }

    private static void stepsUpAndRound() {
        Due.sentence("12 turn: \"a step up goes false false, true false, true true, false true, and round\"");
        PulseRows x = new PulseRows(20);
        Due.is("turn(true, false)", x.turn(true, false), 1);
        Due.is("turn(true, true)", x.turn(true, true), 2);
        Due.is("turn(false, true), the last of the round", x.turn(false, true), 3);
        Due.is("turn(false, false), round", x.turn(false, false), 4);
        Due.is("turn(true, false)", x.turn(true, false), 5);
        for (int k = 6; k <= 17; k++) {
            Due.is("a step up", turn(x, k % 4), k);
        }
        Due.is("faults()", x.faults(), 0);
    }

    private static void stepsDownTheOtherWay() {
        Due.sentence("12 turn: \"a step down the other way\"");
        PulseRows x = new PulseRows(20);
        Due.is("turn(false, true), round", x.turn(false, true), -1);
        Due.is("turn(true, true)", x.turn(true, true), -2);
        Due.is("turn(true, false)", x.turn(true, false), -3);
        Due.is("turn(false, false)", x.turn(false, false), -4);
        Due.is("turn(false, true), round", x.turn(false, true), -5);
        for (int k = -6; k >= -17; k--) {
            Due.is("a step down", turn(x, Math.floorMod(k, 4)), k);
        }
        Due.is("faults()", x.faults(), 0);
    }

    private static void stepsUpLessDown() {
        Due.sentence("12 turn: \"How many steps up less down there were, with this one\"");
        PulseRows x = new PulseRows(20);
        for (int k = 1; k <= 9; k++) {
            Due.is("a step up", turn(x, k % 4), k);
        }
        for (int k = 8; k >= -9; k--) {
            Due.is("a step down", turn(x, Math.floorMod(k, 4)), k);
        }
        for (int k = -8; k <= 2; k++) {
            Due.is("a step up again", turn(x, Math.floorMod(k, 4)), k);
        }
        // To and fro between two places.
        for (int k = 0; k < 4; k++) {
            Due.is("up", turn(x, 3), 3);
            Due.is("down", turn(x, 2), 2);
        }
        Due.is("faults()", x.faults(), 0);
    }

    private static void bothChangeAtOnce() {
        Due.sentence("12 turn: \"when both change at once that is a FAULT and no step\"");
        for (int from = 0; from < 4; from++) {
            PulseRows x = new PulseRows(20);
            for (int k = 1; k <= from; k++) {
                turn(x, k);
            }
            int over = (from + 2) % 4;
            Due.is("turn from " + from + " to " + over, turn(x, over), from);
            Due.is("faults()", x.faults(), 1);
            // The tracks are where they were told to be, behind a fault too.
            Due.is("the same again", turn(x, over), from);
            Due.is("faults(): nothing changes", x.faults(), 1);
            Due.is("a step up from there", turn(x, (over + 1) % 4), from + 1);
            Due.is("and down again", turn(x, over), from);
            Due.is("faults()", x.faults(), 1);
            Due.is("back from " + over + " to " + from, turn(x, from), from);
            Due.is("faults()", x.faults(), 2);
        }
    }

    private static void noChangeIsNoStep() {
        Due.sentence("12 turn: a turn without a change is no step and no FAULT");
        PulseRows x = new PulseRows(20);
        for (int k = 0; k < 4; k++) {
            turn(x, k);
            Due.is("the same again at " + k, turn(x, k), k);
            Due.is("and again at " + k, turn(x, k), k);
        }
        Due.is("faults()", x.faults(), 0);
    }

    private static void everyMove() {
        Due.sentence("12 turn: each of the sixteen moves");
        for (int from = 0; from < 4; from++) {
            for (int by = 0; by < 4; by++) {
                PulseRows x = new PulseRows(20);
                for (int k = 1; k <= from; k++) {
                    turn(x, k);
                }
                int to = (from + by) % 4;
                int due = from + (by == 1 ? 1 : by == 3 ? -1 : 0);
                String call = "turn from " + from + " to " + to;
                Due.is(call, turn(x, to), due);
                Due.is("faults(): " + call, x.faults(), by == 2 ? 1 : 0);
                Due.is(call + ", then up", turn(x, (to + 1) % 4), due + 1);
                Due.is("faults(): " + call + ", then up", x.faults(), by == 2 ? 1 : 0);
            }
        }
    }
}
