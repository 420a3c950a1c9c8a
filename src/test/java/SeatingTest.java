/** Promise 10: seatings. */
public final class SeatingTest {
    private static final int UNKNOWN = RegretLine.UNKNOWN, OUTSIDE = RegretLine.OUTSIDE;
    private static final int STATE = RegretLine.STATE, NONE = RegretLine.NONE;

    public static void main(String[] args) {
        troubles();
        firstWrong();
        aboveByPassenger();
        afterChanges();
        refusals();
        faults();
        Check.finish("SeatingTest");
    }

    /** The answers to what 0, 1, 2, 3, 10, 11, 12, 13. */
    private static void answers(RegretLine x, int[] row, int... want) {
        int[] whats = {0, 1, 2, 3, 10, 11, 12, 13};
        for (int lane = 0; lane < 3; lane++) {
            Check.row(x, 1, lane, row);
            for (int k = 0; k < whats.length; k++) {
                String call = "seating " + java.util.Arrays.toString(row) + ", what " + whats[k];
                Check.due(call, x.seating(1, lane, 0, row.length, whats[k]), want[k]);
                Check.due("fault() of " + call, x.fault(), 0);
            }
        }
    }

    private static void troubles() {
        RegretLine x = Check.on("r222;--,p300,p500");
        answers(x, new int[] {1, 2, 1, 2}, 0, NONE, 0, 0, 0, 0, NONE, NONE);
        answers(x, new int[] {2, 2, 1, 2}, 2, NONE, 1, 0, 0, 0, NONE, NONE);
        answers(x, new int[] {0, 2, 1, 2}, 1, NONE, 1, 1, 1, 0, NONE, NONE);
        answers(x, new int[] {0, 0, 0, 0}, 0, NONE, 0, 4, 2, 2, NONE, NONE);
        answers(x, new int[] {2, 0, 0, 1}, 3, NONE, 2, 3, 1, 2, NONE, NONE);
        RegretLine y = Check.on("r222;--,p000,p000");
        answers(y, new int[] {2, 1, 0, 2}, 7, NONE, 2, 0, 0, 0, NONE, NONE);
    }

    private static void firstWrong() {
        RegretLine x = Check.on("r112;---,p300,p500");
        answers(x, new int[] {1, 1, 1, 2, 1, 2}, -100, 0, -100, -100, -100, -100, -100, -100);
        answers(x, new int[] {1, 2, 0, 0, 0, 0}, -101, 1, -101, -101, -101, -101, -101, -101);
        answers(x, new int[] {1, 2, 0, 2, 1, 1}, -102, 2, -102, -102, -102, -102, -102, -102);
        answers(x, new int[] {2, 2, 2, 2, 2, 2}, 3, NONE, 0, 0, 0, 0, NONE, NONE);
        x.seats(2, 1);
        answers(x, new int[] {1, 2, 2, 2, 2, 2}, -101, 1, -101, -101, -101, -101, -101, -101);
        x.seats(2, 0);
        answers(x, new int[] {1, 0, 1, 0, 1, 2}, -102, 2, -102, -102, -102, -102, -102, -102);
    }

    private static void aboveByPassenger() {
        RegretLine x = Check.on("r444;u-u,p380,w190,h500,p000");
        // Due 1 2 2, 0 1 1, 2 2 2, 0 0 0.
        answers(x, new int[] {1, 0, 2, 0, 1, 0, 1, 0, 1, 0, 0, 0}, 2, NONE, 2, 6, 2, 2, 2, 0);
        answers(x, new int[] {0, 2, 1, 1, 2, 2, 2, 0, 2, 1, 2, 2}, 11, NONE, 5, 2, 1, 0, 1, 0);
    }

    private static void afterChanges() {
        RegretLine x = Check.on("r444;--,p300");
        answers(x, new int[] {1, 1}, 0, NONE, 0, 0, 0, NONE, NONE, NONE);
        x.limits(0, 30);
        answers(x, new int[] {1, 1}, 0, NONE, 0, 2, 2, NONE, NONE, NONE);
        x.limits(31, 40);
        answers(x, new int[] {1, 1}, 2, NONE, 0, 0, 0, NONE, NONE, NONE);
        x.dig(0, true);
        answers(x, new int[] {1, 1}, 1, NONE, 0, 0, 0, NONE, NONE, NONE);
    }

    private static void refusals() {
        RegretLine x = new RegretLine();
        x.sheet(1, 0, 2);
        Check.due("no line", x.seating(1, 0, 0, 2, 0), STATE);
        Check.due("no line, none", x.seating(1, 0, 0, 0, 0), STATE);
        x = Check.on("r444;--,p300");
        Check.row(x, 1, 2, 9, 0, 1, 2, 3, -1);
        Check.due("sheet 4", x.seating(4, 3, 0, 2, 4), UNKNOWN);
        Check.due("sheet -1", x.seating(-1, 0, 0, 2, 0), UNKNOWN);
        Check.due("lane 3", x.seating(2, 3, 0, 2, 0), OUTSIDE);
        Check.due("lane -1", x.seating(2, -1, 0, 2, 0), OUTSIDE);
        int[] whats = {-1, 4, 9, 14, Integer.MIN_VALUE, Integer.MAX_VALUE};
        for (int what : whats) {
            Check.due("what " + what, x.seating(2, 2, -1, -1, what), OUTSIDE);
        }
        Check.due("n is 1", x.seating(1, 2, 1, 1, 1), OUTSIDE);
        Check.due("n is 3", x.seating(1, 2, 1, 3, 1), OUTSIDE);
        Check.due("n is 0", x.seating(1, 2, 1, 0, 1), OUTSIDE);
        Check.due("a 9", x.seating(1, 2, 0, 2, 1), OUTSIDE);
        Check.due("a 3", x.seating(1, 2, 3, 2, 1), OUTSIDE);
        Check.due("a 3 and a -1", x.seating(1, 2, 4, 2, 1), OUTSIDE);
        Check.due("from 1 on", x.seating(1, 2, 1, 2, 2), 1);
        Check.due("from 2 on", x.seating(1, 2, 2, 2, 0), 2);
    }

    private static void faults() {
        RegretLine x = new RegretLine();
        fault(x, 2, -1, -1, 1);
        x.sheet(1, 1, 2);
        fault(x, 0, -1, -1, 2);
        fault(x, 2, 0, 2, 2);
        fault(x, 1, -1, -1, 4);
        fault(x, 1, -1, 2, 3);
        fault(x, 1, 0, 3, 3);
        fault(x, 1, 3, 0, 3);
        fault(x, 1, Integer.MAX_VALUE, Integer.MAX_VALUE, 3);
        Check.due("behind a fault: refused", x.seating(1, 1, 0, 2, 0), STATE);
        Check.due("fault() of it", x.fault(), 0);
        fault(x, 1, 3, 0, 3);
        Check.due("behind a fault: no sheet", x.seating(9, 1, 0, 2, 0), UNKNOWN);
        Check.due("fault() of that", x.fault(), 0);
    }

    private static void fault(RegretLine x, int lane, int i, int n, int fault) {
        String call = "seating(1, " + lane + ", " + i + ", " + n + ", 0)";
        Check.due(call, x.seating(1, lane, i, n, 0), -10 - fault);
        Check.due("fault() of " + call, x.fault(), fault);
    }
}
