public final class Promise12TurnTest {
    private static final boolean[][] ROUND = {{false, false}, {true, false}, {true, true}, {false, true}};

    public static void main(String[] args) {
        upAndDown();
        everyMove();
        Due.end();
    }

    private static void upAndDown() {
        PulseRows x = new PulseRows(20);
        for (int k = 1; k <= 9; k++) {
            Due.is("a step up", x.turn(ROUND[k % 4][0], ROUND[k % 4][1]), k);
        }
        for (int k = 8; k >= -9; k--) {
            int at = Math.floorMod(k, 4);
            Due.is("a step down", x.turn(ROUND[at][0], ROUND[at][1]), k);
        }
        Due.is("faults()", x.faults(), 0);
    }

    private static void everyMove() {
        for (int from = 0; from < 4; from++) {
            for (int by = 0; by < 4; by++) {
                PulseRows x = new PulseRows(20);
                for (int k = 1; k <= from; k++) {
                    x.turn(ROUND[k][0], ROUND[k][1]);
                }
                int to = (from + by) % 4;
                int due = from + (by == 1 ? 1 : by == 3 ? -1 : 0);
                String call = "turn from " + from + " to " + to;
                Due.is(call, x.turn(ROUND[to][0], ROUND[to][1]), due);
                Due.is("faults(): " + call, x.faults(), by == 2 ? 1 : 0);
                // The tracks are where they were told to be, behind a fault too.
                int next = (to + 1) % 4;
                Due.is(call + ", then up", x.turn(ROUND[next][0], ROUND[next][1]), due + 1);
                Due.is("faults(): " + call + ", then up", x.faults(), by == 2 ? 1 : 0);
            }
        }
    }
}
