/** Promises 20 to 24: bounds of sheets, their faults in order, and that nothing is changed by them. */
public final class SheetBoundsTest {
    private static final int UNKNOWN = RegretLine.UNKNOWN, OUTSIDE = RegretLine.OUTSIDE;
    private static final int MIN = Integer.MIN_VALUE, MAX = Integer.MAX_VALUE;
    private static final int[] NO_SHEETS = {-1, 4, 5, MIN, MAX};
    private static final int[] NO_LANES = {-1, 3, MIN, MAX};

    public static void main(String[] args) {
        sheetRefused();
        sheetOfEachSize();
        sheetIsNewEachTime();
        sheetLeavesTheOthers();
        loseRefused();
        loseAndGetAgain();
        putRefused();
        putFaults();
        putCutsToTheLane();
        putAtBothEnds();
        cellRefused();
        cellFaults();
        cellIsLostForNoOtherReason();
        copyRefused();
        copyFaults();
        copyFaultsInTheirOrder();
        copyAtItsEnds();
        copyOntoItself();
        copyOfNone();
        copyKeepsNumbers();
        Check.finish("SheetBoundsTest");
    }

    private static void sheetRefused() {
        for (int k : NO_SHEETS) {
            Twin.refused("sheet " + k, Made::two, x -> x.sheet(k, 0, 1), UNKNOWN, 0);
            Twin.refused("sheet " + k + ", lane and n wrong", Made::two, x -> x.sheet(k, 3, 61), UNKNOWN, 0);
            Twin.refused("sheet " + k + ", SIZE", Made::two, x -> x.sheet(k, 0, -1), UNKNOWN, 0);
        }
        for (int lane : NO_LANES) {
            Twin.refused("lane " + lane, Made::two, x -> x.sheet(1, lane, 1), OUTSIDE, 0);
            Twin.refused("lane " + lane + ", SIZE", Made::two, x -> x.sheet(1, lane, -1), OUTSIDE, 0);
            Twin.refused("lane " + lane + " to nothing", Made::two, x -> x.sheet(3, lane, 0), OUTSIDE, 0);
        }
        for (int n : new int[] {61, 62, MAX}) {
            Twin.refused(n + " cells", Made::two, x -> x.sheet(1, 1, n), OUTSIDE, 0);
            Twin.refused(n + " cells to nothing", Made::two, x -> x.sheet(3, 1, n), OUTSIDE, 0);
        }
        for (int n : new int[] {-1, -2, -61, MIN}) {
            Twin.faulty(n + " cells", Made::two, x -> x.sheet(1, 1, n), 4);
            Twin.faulty(n + " cells to nothing", Made::two, x -> x.sheet(3, 2, n), 4);
        }
    }

    private static void sheetOfEachSize() {
        for (int lane = 0; lane < 3; lane++) {
            for (int n : new int[] {0, 1, 59, 60}) {
                RegretLine x = new RegretLine();
                x.put(3, 0, 0);
                Check.due(n + " cells of lane " + lane, x.sheet(3, lane, n), 1);
                Check.due("no fault", x.fault(), 0);
                for (int i = 0; i < n; i++) {
                    Check.due("cell " + i + " at first", x.cell(3, i, lane), 0);
                }
                Check.due("behind the last cell", x.cell(3, n, lane), RegretLine.LOST);
                Check.due("INDEX", x.fault(), 3);
                Check.due("put behind it", x.put(3, n, 1), -13);
                Check.due("put to the last", x.put(3, n - 1, 1), n == 0 ? -13 : 1);
            }
        }
    }

    private static void sheetIsNewEachTime() {
        RegretLine x = new RegretLine();
        Check.row(x, 0, 2, 7, 8, 9);
        Check.due("the same size", x.sheet(0, 2, 3), 1);
        for (int i = 0; i < 3; i++) {
            Check.due("0 at first", x.cell(0, i, 2), 0);
        }
        x.put(0, 2, 9);
        x.sheet(0, 2, 2);
        Check.due("a shorter row", x.cell(0, 2, 2), RegretLine.LOST);
        x.sheet(0, 2, 60);
        Check.due("a longer one is 0 there, too", x.cell(0, 2, 2), 0);
        x.sheet(0, 1, 60);
        Check.due("another lane", x.cell(0, 0, 2), RegretLine.LOST);
        Check.due("CAST", x.fault(), 2);
    }

    private static void sheetLeavesTheOthers() {
        RegretLine x = new RegretLine();
        for (int k = 0; k < 4; k++) {
            Check.row(x, k, k % 3, k, k);
        }
        for (int k = 0; k < 4; k++) {
            x.sheet(k, 2, 1);
            for (int other = k + 1; other < 4; other++) {
                Check.due("cell of " + other, x.cell(other, 1, other % 3), other);
            }
        }
    }

    private static void loseRefused() {
        for (int k : NO_SHEETS) {
            Twin.refused("lose " + k, Made::two, x -> x.lose(k), UNKNOWN);
        }
        Twin.refused("lose nothing", Made::two, x -> x.lose(3), 0);
        Twin.refused("lose nothing at all", RegretLine::new, x -> x.lose(0), 0);
    }

    private static void loseAndGetAgain() {
        for (int k = 0; k < 4; k++) {
            RegretLine x = new RegretLine();
            for (int other = 0; other < 4; other++) {
                Check.row(x, other, 1, 5);
            }
            Check.due("lose " + k, x.lose(k), 1);
            Check.due("lose " + k + " again", x.lose(k), 0);
            for (int other = 0; other < 4; other++) {
                Check.due("cell of " + other, x.cell(other, 0, 1), other == k ? RegretLine.LOST : 5);
                Check.due("fault of it", x.fault(), other == k ? 1 : 0);
            }
            Check.due("nothing, of whatever lane", x.cell(k, 0, 2), RegretLine.LOST);
            Check.due("is no CAST", x.fault(), 1);
            Check.due("get it again", x.sheet(k, 1, 1), 1);
            Check.due("0 at first", x.cell(k, 0, 1), 0);
        }
        RegretLine empty = new RegretLine();
        empty.sheet(2, 0, 0);
        Check.due("a row of no cells is something", empty.lose(2), 1);
    }

    private static void putRefused() {
        for (int k : NO_SHEETS) {
            Twin.refused("put to " + k, Made::two, x -> x.put(k, 0, 1), UNKNOWN, 0);
            Twin.refused("put to " + k + ", INDEX", Made::two, x -> x.put(k, -1, 1), UNKNOWN, 0);
        }
    }

    private static void putFaults() {
        for (int i : new int[] {-1, 0, 60, MIN, MAX}) {
            Twin.faulty("put to nothing at " + i, Made::two, x -> x.put(3, i, 1), 1);
        }
        for (int i : new int[] {-1, 4, 5, 59, 60, MIN, MAX}) {
            Twin.faulty("put at " + i + " of 4", Made::two, x -> x.put(1, i, 1), 3);
        }
        Twin.faulty("put at 17 of 17", Made::two, x -> x.put(0, 17, 1), 3);
        Twin.faulty("put at 5 of 5", Made::two, x -> x.put(2, 5, 1), 3);
        RegretLine empty = new RegretLine();
        empty.sheet(0, 0, 0);
        Check.due("put at 0 of 0", empty.put(0, 0, 1), -13);
        Check.due("put at -1 of 0", empty.put(0, -1, 1), -13);
    }

    private static void putCutsToTheLane() {
        int[] told = {127, 128, -128, -129, 255, 256, 32767, 32768, -32768, -32769, 65535, 65536, MAX, MIN, -1, 0};
        int[] bytes = {127, -128, -128, 127, -1, 0, -1, 0, 0, -1, -1, 0, -1, 0, -1, 0};
        int[] shorts = {127, 128, -128, -129, 255, 256, 32767, -32768, -32768, 32767, -1, 0, -1, 0, -1, 0};
        for (int lane = 0; lane < 3; lane++) {
            int[] want = lane == 0 ? bytes : lane == 1 ? shorts : told;
            RegretLine x = new RegretLine();
            x.sheet(0, lane, 1);
            for (int k = 0; k < told.length; k++) {
                Check.due("put " + told[k] + " of lane " + lane, x.put(0, 0, told[k]), 1);
                Check.due("what is left of " + told[k], x.cell(0, 0, lane), want[k]);
            }
        }
    }

    private static void putAtBothEnds() {
        RegretLine x = new RegretLine();
        x.sheet(3, 2, 60);
        x.put(3, 0, 11);
        x.put(3, 59, 12);
        for (int i = 0; i < 60; i++) {
            Check.due("cell " + i, x.cell(3, i, 2), i == 0 ? 11 : i == 59 ? 12 : 0);
        }
    }

    private static void cellRefused() {
        for (int k : NO_SHEETS) {
            Twin.lost("cell of " + k, Made::two, x -> x.cell(k, 0, 0), 0);
            Twin.lost("cell of " + k + ", lane", Made::two, x -> x.cell(k, -1, 3), 0);
        }
        for (int lane : NO_LANES) {
            Twin.lost("cell of lane " + lane, Made::two, x -> x.cell(0, 0, lane), 0);
            Twin.lost("cell of lane " + lane + " of nothing", Made::two, x -> x.cell(3, 0, lane), 0);
            Twin.lost("cell of lane " + lane + ", INDEX", Made::two, x -> x.cell(0, -1, lane), 0);
        }
    }

    private static void cellFaults() {
        for (int lane = 0; lane < 3; lane++) {
            int as = lane;
            Twin.lost("cell of nothing", Made::two, x -> x.cell(3, 0, as), 1);
            Twin.lost("cell of nothing, INDEX", Made::two, x -> x.cell(3, -1, as), 1);
            for (int k = 0; k < 3; k++) {
                int sheet = k;
                if (k != lane) {
                    Twin.lost("lane " + k + " as " + lane, Made::two, x -> x.cell(sheet, 0, as), 2);
                    Twin.lost("lane " + k + " as " + lane + ", INDEX", Made::two, x -> x.cell(sheet, -1, as), 2);
                }
            }
        }
        for (int i : new int[] {-1, 4, 5, 60, MIN, MAX}) {
            Twin.lost("cell " + i + " of 4", Made::two, x -> x.cell(1, i, 1), 3);
        }
        Twin.refused("cell 3 of 4", Made::two, x -> x.cell(1, 3, 1), 300, 0);
        Twin.refused("cell 0 of 4", Made::two, x -> x.cell(1, 0, 1), 0, 0);
    }

    /** The least number of a LANE is not LOST. */
    private static void cellIsLostForNoOtherReason() {
        RegretLine x = new RegretLine();
        Check.row(x, 0, 2, MIN, MAX);
        Check.due("the least int", x.cell(0, 0, 2), (long) MIN);
        Check.due("the most int", x.cell(0, 1, 2), (long) MAX);
    }

    private static void copyRefused() {
        for (int k : NO_SHEETS) {
            Twin.refused("copy of " + k, Made::two, x -> x.copy(k, 0, 1, 0, 1), UNKNOWN, 0);
            Twin.refused("copy to " + k, Made::two, x -> x.copy(1, 0, k, 0, 1), UNKNOWN, 0);
            Twin.refused("copy of and to " + k, Made::two, x -> x.copy(k, 0, k, 0, 0), UNKNOWN, 0);
            Twin.refused("copy of " + k + ", NULL", Made::two, x -> x.copy(k, -1, 3, -1, -1), UNKNOWN, 0);
            Twin.refused("copy of nothing to " + k, Made::two, x -> x.copy(3, -1, k, -1, -1), UNKNOWN, 0);
        }
    }

    /** Two SHEETS of shorts, 4 and 6 cells; one of ints, and one that has nothing. */
    private static RegretLine pair() {
        RegretLine x = new RegretLine();
        Check.row(x, 0, 1, 1, 2, 3, 4);
        Check.row(x, 1, 1, 11, 12, 13, 14, 15, 16);
        Check.row(x, 2, 2, 21, 22, 23, 24);
        return x;
    }

    private static void copyFaults() {
        Twin.faulty("from nothing", SheetBoundsTest::pair, x -> x.copy(3, 0, 0, 0, 1), 1);
        Twin.faulty("to nothing", SheetBoundsTest::pair, x -> x.copy(0, 0, 3, 0, 1), 1);
        Twin.faulty("nothing to itself", SheetBoundsTest::pair, x -> x.copy(3, 0, 3, 0, 0), 1);
        Twin.faulty("shorts to ints", SheetBoundsTest::pair, x -> x.copy(0, 0, 2, 0, 1), 2);
        Twin.faulty("ints to shorts", SheetBoundsTest::pair, x -> x.copy(2, 0, 0, 0, 1), 2);
        Twin.faulty("ints to shorts, none", SheetBoundsTest::pair, x -> x.copy(2, 0, 0, 0, 0), 2);
        int[][] wrong = {{-1, 0, 1}, {0, -1, 1}, {0, 0, -1}, {0, 0, 5}, {1, 0, 4}, {4, 0, 1}, {5, 0, 0}, {0, 3, 4},
            {0, 6, 1}, {0, 7, 0}, {-1, 0, 0}, {0, -1, 0}, {0, 0, MIN}, {0, 0, MAX}, {MAX, 0, 1}, {0, MAX, 1}, {MIN, 0, 1},
            {0, MIN, 1}, {MAX, 0, MAX}, {0, MAX, MAX}, {MAX, MAX, MAX}, {MIN, MIN, MIN}, {MAX, MAX, 0}, {-1, -1, -1},
            {4, 6, 1}, {4, 6, -1}, {4, 6, MIN}};
        for (int[] w : wrong) {
            String call = "copy(0, " + w[0] + ", 1, " + w[1] + ", " + w[2] + ")";
            Twin.faulty(call, SheetBoundsTest::pair, x -> x.copy(0, w[0], 1, w[1], w[2]), 3);
        }
        Twin.faulty("5 of 6 to 4", SheetBoundsTest::pair, x -> x.copy(1, 0, 0, 0, 5), 3);
        Twin.faulty("4 of 6 to 4 from 1 on", SheetBoundsTest::pair, x -> x.copy(1, 2, 0, 1, 4), 3);
        Twin.faulty("beyond itself", SheetBoundsTest::pair, x -> x.copy(0, 0, 0, 1, 4), 3);
        Twin.faulty("from beyond itself", SheetBoundsTest::pair, x -> x.copy(0, 1, 0, 0, 4), 3);
    }

    private static void copyFaultsInTheirOrder() {
        Twin.faulty("nothing to ints, INDEX", SheetBoundsTest::pair, x -> x.copy(3, -1, 2, -1, -1), 1);
        Twin.faulty("ints to nothing, INDEX", SheetBoundsTest::pair, x -> x.copy(2, -1, 3, -1, -1), 1);
        Twin.faulty("shorts to ints, INDEX", SheetBoundsTest::pair, x -> x.copy(0, -1, 2, -1, -1), 2);
        Twin.faulty("a length below 0 is an INDEX here", SheetBoundsTest::pair, x -> x.copy(0, 0, 1, 0, -1), 3);
    }

    private static void cells(RegretLine x, int k, int... want) {
        for (int i = 0; i < want.length; i++) {
            Check.due("cell " + i + " of sheet " + k, x.cell(k, i, 1), want[i]);
        }
        Check.due("no more of sheet " + k, x.cell(k, want.length, 1), RegretLine.LOST);
    }

    private static void copyAtItsEnds() {
        RegretLine x = pair();
        Check.due("all four to the end", x.copy(0, 0, 1, 2, 4), 4);
        cells(x, 1, 11, 12, 1, 2, 3, 4);
        cells(x, 0, 1, 2, 3, 4);
        Check.due("the last to the last", x.copy(1, 5, 0, 3, 1), 1);
        cells(x, 0, 1, 2, 3, 4);
        Check.due("the first to the last", x.copy(1, 0, 0, 3, 1), 1);
        cells(x, 0, 1, 2, 3, 11);
        Check.due("the last to the first", x.copy(0, 3, 1, 0, 1), 1);
        cells(x, 1, 11, 12, 1, 2, 3, 4);
        RegretLine whole = new RegretLine();
        whole.sheet(0, 0, 60);
        whole.sheet(3, 0, 60);
        whole.put(0, 0, 3);
        whole.put(0, 59, 4);
        Check.due("60 cells", whole.copy(0, 0, 3, 0, 60), 60);
        Check.due("the first of them", whole.cell(3, 0, 0), 3);
        Check.due("the last of them", whole.cell(3, 59, 0), 4);
        Check.due("61 cells", whole.copy(0, 0, 3, 0, 61), -13);
    }

    private static void copyOntoItself() {
        RegretLine x = pair();
        Check.due("forth", x.copy(1, 0, 1, 1, 5), 5);
        cells(x, 1, 11, 11, 12, 13, 14, 15);
        Check.due("back", x.copy(1, 1, 1, 0, 5), 5);
        cells(x, 1, 11, 12, 13, 14, 15, 15);
        Check.due("where it is", x.copy(1, 0, 1, 0, 6), 6);
        cells(x, 1, 11, 12, 13, 14, 15, 15);
    }

    private static void copyOfNone() {
        Twin.refused("none from 0 to 0", SheetBoundsTest::pair, x -> x.copy(0, 0, 1, 0, 0), 0, 0);
        Twin.refused("none from end to end", SheetBoundsTest::pair, x -> x.copy(0, 4, 1, 6, 0), 0, 0);
        Twin.refused("none of itself", SheetBoundsTest::pair, x -> x.copy(2, 4, 2, 4, 0), 0, 0);
        RegretLine x = new RegretLine();
        x.sheet(0, 0, 0);
        x.sheet(1, 0, 0);
        Check.due("none of none", x.copy(0, 0, 1, 0, 0), 0);
        Check.due("none behind none", x.copy(0, 1, 1, 0, 0), -13);
        Check.due("one of none", x.copy(0, 0, 1, 0, 1), -13);
    }

    private static void copyKeepsNumbers() {
        int[] least = {-128, -32768, MIN};
        for (int lane = 0; lane < 3; lane++) {
            RegretLine x = new RegretLine();
            Check.row(x, 0, lane, least[lane], least[lane] - 1);
            x.sheet(1, lane, 2);
            Check.due("copy the ends of lane " + lane, x.copy(0, 0, 1, 0, 2), 2);
            Check.due("the least", x.cell(1, 0, lane), least[lane]);
            Check.due("the most", x.cell(1, 1, lane), -(long) least[lane] - 1);
        }
    }
}
