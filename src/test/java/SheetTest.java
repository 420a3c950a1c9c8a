/** Promises 20 to 24, and 29: sheets and faults. */
public final class SheetTest {
    private static final int UNKNOWN = RegretLine.UNKNOWN, OUTSIDE = RegretLine.OUTSIDE;
    private static final long LOST = RegretLine.LOST;
    private static final int MIN = Integer.MIN_VALUE, MAX = Integer.MAX_VALUE;

    public static void main(String[] args) {
        sheet();
        lose();
        put();
        cell();
        copy();
        copyFaults();
        faultIsOfTheLatest();
        Check.finish("SheetTest");
    }

    private static void answer(RegretLine x, String call, long got, long want, int fault) {
        Check.due(call, got, want);
        Check.due("fault() of " + call, x.fault(), fault);
    }

    private static void sheet() {
        RegretLine x = new RegretLine();
        answer(x, "sheet(4, 3, -1)", x.sheet(4, 3, -1), UNKNOWN, 0);
        answer(x, "sheet(-1, 0, 1)", x.sheet(-1, 0, 1), UNKNOWN, 0);
        answer(x, "sheet(0, 3, -1)", x.sheet(0, 3, -1), OUTSIDE, 0);
        answer(x, "sheet(0, -1, 1)", x.sheet(0, -1, 1), OUTSIDE, 0);
        answer(x, "sheet(0, 0, 61)", x.sheet(0, 0, 61), OUTSIDE, 0);
        answer(x, "sheet(0, 0, MAX)", x.sheet(0, 0, MAX), OUTSIDE, 0);
        answer(x, "sheet(0, 0, -1)", x.sheet(0, 0, -1), -14, 4);
        answer(x, "sheet(0, 2, MIN)", x.sheet(0, 2, MIN), -14, 4);
        answer(x, "nothing yet", x.put(0, 0, 0), -11, 1);
        answer(x, "sheet(3, 2, 60)", x.sheet(3, 2, 60), 1, 0);
        answer(x, "its last cell", x.put(3, 59, 7), 1, 0);
        answer(x, "refused", x.sheet(3, 2, 61), OUTSIDE, 0);
        answer(x, "the cell stays", x.cell(3, 59, 2), 7, 0);
        answer(x, "a fault", x.sheet(3, 2, -5), -14, 4);
        answer(x, "the cell stays still", x.cell(3, 59, 2), 7, 0);
        answer(x, "a new row", x.sheet(3, 2, 60), 1, 0);
        answer(x, "it is 0 at first", x.cell(3, 59, 2), 0, 0);
        x.put(3, 0, 5);
        x.sheet(3, 0, 1);
        answer(x, "of another lane", x.cell(3, 0, 0), 0, 0);
        answer(x, "shorter", x.cell(3, 1, 0), LOST, 3);
        x.sheet(3, 0, 0);
        answer(x, "of none", x.cell(3, 0, 0), LOST, 3);
    }

    private static void lose() {
        RegretLine x = new RegretLine();
        Check.due("lose(0)", x.lose(0), 0);
        x.sheet(0, 1, 0);
        x.sheet(1, 1, 3);
        Check.due("lose an empty row", x.lose(0), 1);
        Check.due("lose it again", x.lose(0), 0);
        answer(x, "the other one stays", x.cell(1, 2, 1), 0, 0);
        Check.due("lose(4)", x.lose(4), UNKNOWN);
        Check.due("lose(-1)", x.lose(-1), UNKNOWN);
        answer(x, "put to nothing", x.put(0, 0, 0), -11, 1);
        answer(x, "lose is none of the calls with faults", x.lose(0), 0, 1);
        answer(x, "lose(9) neither", x.lose(9), UNKNOWN, 1);
    }

    private static void put() {
        RegretLine x = new RegretLine();
        for (int lane = 0; lane < 3; lane++) {
            x.sheet(lane, lane, 2);
        }
        int[] values = {127, 128, -129, 200, 32767, 32768, -32769, 65536, MAX, MIN};
        for (int v : values) {
            for (int lane = 0; lane < 3; lane++) {
                answer(x, "put " + v, x.put(lane, 1, v), 1, 0);
                long want = lane == 0 ? (byte) v : lane == 1 ? (short) v : v;
                answer(x, "cell with " + v + " of lane " + lane, x.cell(lane, 1, lane), want, 0);
                answer(x, "the cell ahead", x.cell(lane, 0, lane), 0, 0);
            }
        }
        answer(x, "put(4, 9, 0)", x.put(4, 9, 0), UNKNOWN, 0);
        answer(x, "put(-1, 0, 0)", x.put(-1, 0, 0), UNKNOWN, 0);
        answer(x, "put(3, 9, 0)", x.put(3, 9, 0), -11, 1);
        answer(x, "put(0, 2, 0)", x.put(0, 2, 0), -13, 3);
        answer(x, "put(0, -1, 0)", x.put(0, -1, 0), -13, 3);
        answer(x, "put(0, MAX, 0)", x.put(0, MAX, 0), -13, 3);
        answer(x, "put(0, MIN, 0)", x.put(0, MIN, 0), -13, 3);
    }

    private static void cell() {
        RegretLine x = new RegretLine();
        x.sheet(0, 1, 2);
        x.put(0, 1, -5);
        answer(x, "cell(0, 1, 1)", x.cell(0, 1, 1), -5, 0);
        answer(x, "cell(4, 0, 0)", x.cell(4, 0, 0), LOST, 0);
        answer(x, "cell(-1, 0, 0)", x.cell(-1, 0, 0), LOST, 0);
        answer(x, "as ints", x.cell(0, 9, 2), LOST, 2);
        answer(x, "lane 3", x.cell(0, 0, 3), LOST, 0);
        answer(x, "as bytes", x.cell(0, 0, 0), LOST, 2);
        answer(x, "lane -1", x.cell(0, 0, -1), LOST, 0);
        answer(x, "of nothing", x.cell(1, 9, 0), LOST, 1);
        answer(x, "lane 3 of nothing", x.cell(1, 9, 3), LOST, 0);
        answer(x, "cell 2", x.cell(0, 2, 1), LOST, 3);
        answer(x, "cell -1", x.cell(0, -1, 1), LOST, 3);
    }

    private static void copy() {
        RegretLine x = new RegretLine();
        Check.row(x, 0, 1, 1, 2, 3, 4, 5);
        Check.row(x, 1, 1, 9, 9, 9);
        answer(x, "copy(0, 3, 1, 0, 2)", x.copy(0, 3, 1, 0, 2), 2, 0);
        cells(x, 1, 4, 5, 9);
        cells(x, 0, 1, 2, 3, 4, 5);
        answer(x, "copy none", x.copy(0, 5, 1, 3, 0), 0, 0);
        answer(x, "copy forth onto itself", x.copy(0, 0, 0, 1, 4), 4, 0);
        cells(x, 0, 1, 1, 2, 3, 4);
        answer(x, "copy back onto itself", x.copy(0, 1, 0, 0, 4), 4, 0);
        cells(x, 0, 1, 2, 3, 4, 4);
        answer(x, "copy all", x.copy(1, 0, 0, 2, 3), 3, 0);
        cells(x, 0, 1, 2, 4, 5, 9);
    }

    private static void cells(RegretLine x, int k, int... want) {
        for (int i = 0; i < want.length; i++) {
            Check.due("cell " + i + " of sheet " + k, x.cell(k, i, 1), want[i]);
        }
    }

    private static void copyFaults() {
        RegretLine x = new RegretLine();
        x.sheet(0, 1, 5);
        x.sheet(1, 1, 3);
        x.sheet(2, 2, 3);
        answer(x, "copy(4, ..)", x.copy(4, -1, 3, 0, 0), UNKNOWN, 0);
        answer(x, "copy(.. 4 ..)", x.copy(3, -1, 4, 0, 0), UNKNOWN, 0);
        answer(x, "copy(-1, ..)", x.copy(-1, 0, 0, 0, 0), UNKNOWN, 0);
        answer(x, "copy(.. -1 ..)", x.copy(0, 0, -1, 0, 0), UNKNOWN, 0);
        answer(x, "from nothing", x.copy(3, -1, 0, 0, -1), -11, 1);
        answer(x, "to nothing", x.copy(0, -1, 3, 0, -1), -11, 1);
        answer(x, "nothing to nothing", x.copy(3, 0, 3, 0, 0), -11, 1);
        answer(x, "unlike lanes", x.copy(0, -1, 2, 0, -1), -12, 2);
        answer(x, "unlike lanes back", x.copy(2, 0, 1, 0, 1), -12, 2);
        int[][] wrong = {{-1, 0, 1}, {0, -1, 1}, {0, 0, -1}, {0, 0, 4}, {3, 0, 3}, {0, 1, 3}, {6, 0, 0}, {0, 4, 0},
            {MAX, 0, 1}, {0, MAX, 1}, {0, 0, MAX}, {MAX, MAX, MAX}, {MIN, MIN, MIN}, {1, 1, MAX}};
        for (int[] w : wrong) {
            answer(x, "copy(0, " + w[0] + ", 1, " + w[1] + ", " + w[2] + ")", x.copy(0, w[0], 1, w[1], w[2]), -13, 3);
        }
        answer(x, "beyond itself", x.copy(0, 0, 0, 1, 5), -13, 3);
    }

    private static void faultIsOfTheLatest() {
        RegretLine x = Check.on("r444;-,p100");
        Check.due("a CAST", x.as(0, 1), -12);
        x.many(0);
        x.many(9);
        x.regret(9, 9);
        x.odds(9, 9, 9);
        x.tell(9);
        x.ease(-5);
        x.reading(0, 0, 9);
        x.fault();
        Check.due("calls that name none leave it", x.fault(), 2);
        answer(x, "one that comes to none", x.put(0, 0, 1), 1, 0);
        answer(x, "a SIZE", x.sheet(1, 1, -1), -14, 4);
        answer(x, "a text with a FIRST FAULT", x.line(0, 0, 0, 0), -100, 0);
        answer(x, "an INDEX", x.put(0, 60, 1), -13, 3);
        x.sheet(2, 0, 3);
        x.put(2, 3, 0);
        answer(x, "copy behind an INDEX", x.copy(2, 0, 2, 1, 2), 2, 0);
        x.put(2, 3, 0);
        answer(x, "copy, refused", x.copy(9, 0, 2, 1, 2), UNKNOWN, 0);
        x.put(2, 3, 0);
        answer(x, "cell behind an INDEX", x.cell(2, 2, 0), 0, 0);
        x.put(2, 3, 0);
        answer(x, "as behind an INDEX", x.as(0, 0), 1, 0);
        x.put(2, 3, 0);
        answer(x, "as, refused", x.as(1, 0), UNKNOWN, 0);
    }
}
