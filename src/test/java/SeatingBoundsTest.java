/** Promise 10: bounds of seatings, what is refused in which order, and that nothing is changed. */
public final class SeatingBoundsTest {
    private static final int UNKNOWN = RegretLine.UNKNOWN, OUTSIDE = RegretLine.OUTSIDE;
    private static final int STATE = RegretLine.STATE, NONE = RegretLine.NONE;
    private static final int MIN = Integer.MIN_VALUE, MAX = Integer.MAX_VALUE;
    private static final int[] WHATS = {0, 1, 2, 3, 10, 11, 12, 13};

    public static void main(String[] args) {
        refusals();
        faults();
        faultsInTheirOrder();
        noLine();
        howManyCells();
        noClass();
        cellsCutToTheirLane();
        fullClasses();
        classesWithoutSeats();
        firstWrongAtBothEnds();
        wrongAheadOfAll();
        noSuchPassenger();
        theMostThereCanBe();
        aboveAndLow();
        changesFromMileToMile();
        seatingChangesNothing();
        Check.finish("SeatingBoundsTest");
    }

    private static void refusals() {
        for (int k : new int[] {-1, 4, MIN, MAX}) {
            Twin.refused("sheet " + k, Made::two, x -> x.seating(k, 2, 0, 4, 0), UNKNOWN, 0);
            Twin.refused("sheet " + k + ", all else wrong", Made::two, x -> x.seating(k, 3, -1, -1, 4), UNKNOWN, 0);
        }
        for (int lane : new int[] {-1, 3, MIN, MAX}) {
            Twin.refused("lane " + lane, Made::two, x -> x.seating(2, lane, 0, 4, 0), OUTSIDE, 0);
            Twin.refused("lane " + lane + " of nothing", Made::two, x -> x.seating(3, lane, -1, -1, 0), OUTSIDE, 0);
        }
        for (int what : new int[] {-1, 4, 5, 9, 14, 15, MIN, MAX}) {
            Twin.refused("what " + what, Made::two, x -> x.seating(1, 1, 0, 4, what), OUTSIDE, 0);
            Twin.refused("what " + what + " of nothing", Made::two, x -> x.seating(3, 0, -1, -1, what), OUTSIDE, 0);
            Twin.refused("what " + what + ", CAST", Made::two, x -> x.seating(2, 0, 0, 4, what), OUTSIDE, 0);
            Twin.refused("what " + what + ", no line", Made::withoutLine, x -> x.seating(2, 2, 0, 4, what), OUTSIDE, 0);
        }
    }

    private static void faults() {
        for (int what : WHATS) {
            Twin.faulty("nothing", Made::two, x -> x.seating(3, 0, 0, 4, what), 1);
            Twin.faulty("ints as shorts", Made::two, x -> x.seating(2, 1, 0, 4, what), 2);
            Twin.faulty("shorts as ints", Made::two, x -> x.seating(1, 2, 0, 4, what), 2);
            Twin.faulty("bytes as ints", Made::two, x -> x.seating(0, 2, 0, 4, what), 2);
            Twin.faulty("n is -1", Made::two, x -> x.seating(1, 1, 0, -1, what), 4);
            Twin.faulty("one cell too many", Made::two, x -> x.seating(1, 1, 1, 4, what), 3);
        }
        Twin.faulty("n is least", Made::two, x -> x.seating(1, 1, 0, MIN, 0), 4);
        Twin.faulty("i is -1", Made::two, x -> x.seating(1, 1, -1, 4, 0), 3);
        Twin.faulty("i is least", Made::two, x -> x.seating(1, 1, MIN, 4, 0), 3);
        Twin.faulty("i is most: the sum wraps", Made::two, x -> x.seating(1, 1, MAX, 4, 0), 3);
        Twin.faulty("both are most", Made::two, x -> x.seating(1, 1, MAX, MAX, 0), 3);
        Twin.faulty("n is most", Made::two, x -> x.seating(1, 1, 0, MAX, 0), 3);
        Twin.faulty("none from behind the end on", Made::two, x -> x.seating(1, 1, 5, 0, 0), 3);
        Twin.faulty("none from -1 on", Made::two, x -> x.seating(1, 1, -1, 0, 0), 3);
        Twin.refused("none from the end on", Made::two, x -> x.seating(1, 1, 4, 0, 0), OUTSIDE, 0);
    }

    private static void faultsInTheirOrder() {
        Twin.faulty("nothing, SIZE, INDEX", Made::two, x -> x.seating(3, 0, -1, -1, 0), 1);
        Twin.faulty("CAST, SIZE, INDEX", Made::two, x -> x.seating(2, 1, -1, -1, 0), 2);
        Twin.faulty("SIZE, INDEX", Made::two, x -> x.seating(1, 1, -1, -1, 0), 4);
        Twin.faulty("INDEX, n not as due, a cell is no class", Made::two, x -> x.seating(1, 1, 0, 5, 0), 3);
        Twin.faulty("nothing, no line", Made::withoutLine, x -> x.seating(3, 0, 0, 0, 0), 1);
        Twin.faulty("CAST, no line", Made::withoutLine, x -> x.seating(1, 0, 0, 0, 0), 2);
        Twin.faulty("SIZE, no line", Made::withoutLine, x -> x.seating(1, 1, 0, -1, 0), 4);
        Twin.faulty("INDEX, no line", Made::withoutLine, x -> x.seating(1, 1, 5, 0, 0), 3);
    }

    private static void noLine() {
        for (int what : WHATS) {
            Twin.refused("no line", Made::withoutLine, x -> x.seating(1, 1, 0, 3, what), STATE, 0);
            Twin.refused("no line, no cells", Made::withoutLine, x -> x.seating(1, 1, 0, 0, what), STATE, 0);
            Twin.refused("no line, no class", Made::withoutLine, x -> x.seating(1, 1, 0, 4, what), STATE, 0);
        }
    }

    private static RegretLine withRow(String text, int lane, int... cells) {
        RegretLine x = Check.on(text);
        Check.row(x, 1, lane, cells);
        return x;
    }

    private static void howManyCells() {
        for (int what : WHATS) {
            for (int n = 0; n < 6; n++) {
                RegretLine x = withRow("r444;--,p000,p000", 0, 0, 0, 0, 0, 0);
                int ofFour = what == 1 || what > 11 ? NONE : 0;
                Check.due(n + " cells, what " + what, x.seating(1, 0, 0, n, what), n == 4 ? ofFour : OUTSIDE);
            }
        }
        Twin.refused("no cells", Made::two, x -> x.seating(1, 1, 0, 0, 0), OUTSIDE, 0);
        Twin.refused("one less", Made::two, x -> x.seating(1, 1, 0, 3, 0), OUTSIDE, 0);
        Twin.refused("one more", Made::two, x -> x.seating(2, 2, 0, 5, 0), OUTSIDE, 0);
        Twin.refused("for passengers alone", Made::two, x -> x.seating(1, 1, 0, 2, 0), OUTSIDE, 0);
    }

    private static void noClass() {
        for (int place = 0; place < 4; place++) {
            for (int wrong : new int[] {-1, 3, 4, MIN, MAX}) {
                RegretLine x = withRow("r111;--,p000,p000", 2, 0, 0, 0, 0);
                x.put(1, place, wrong);
                for (int what : WHATS) {
                    // Too many sit in a class as well: a cell that is no class comes first.
                    Check.due(wrong + " in cell " + place, x.seating(1, 2, 0, 4, what), OUTSIDE);
                }
                x.put(1, place, 2);
                Check.due("2 in it", x.seating(1, 2, 0, 4, 1), place < 2 ? 1 : 0);
            }
        }
        Twin.refused("a cell is no class", Made::two, x -> x.seating(1, 1, 0, 4, 0), OUTSIDE, 0);
        Twin.refused("the last one is -1", Made::two, x -> x.seating(2, 2, 1, 4, 1), OUTSIDE, 0);
        RegretLine x = withRow("r444;--,p000", 1, 3, 0, 2, -1);
        Check.due("cells around it don't count", x.seating(1, 1, 1, 2, 0), 3);
    }

    private static void cellsCutToTheirLane() {
        for (int lane = 0; lane < 3; lane++) {
            RegretLine x = withRow("r444;--,p000", lane, 258, 0);
            Check.due("258 of lane " + lane, x.seating(1, lane, 0, 2, 0), lane == 0 ? 3 : OUTSIDE);
            x.put(1, 0, 65537);
            Check.due("65537 of lane " + lane, x.seating(1, lane, 0, 2, 0), lane < 2 ? 2 : OUTSIDE);
        }
    }

    /** As many as a class has seats may sit in it; one more is wrong. */
    private static void fullClasses() {
        for (int c = 0; c < 3; c++) {
            for (int seats = 0; seats < 5; seats++) {
                for (int sitting = 0; sitting < 5; sitting++) {
                    int[] row = {c, c, c, c};
                    for (int p = sitting; p < 4; p++) {
                        row[p] = (c + 1) % 3;
                    }
                    RegretLine x = withRow("r444;-,p000,p000,p000,p000", 0, row);
                    x.seats(c, seats);
                    String told = sitting + " on " + seats + " seats of class " + c;
                    Check.due(told, x.seating(1, 0, 0, 4, 1), sitting > seats ? 0 : NONE);
                    Check.due(told, x.seating(1, 0, 0, 4, 2), sitting > seats ? -100 : 0);
                }
            }
        }
    }

    private static void classesWithoutSeats() {
        RegretLine x = withRow("r000;-,p000", 0, 0, 1, 2);
        for (int c = 0; c < 3; c++) {
            Check.due("one in class " + c + " without seats", x.seating(1, 0, c, 1, 1), 0);
            x.seats(c, 1);
            Check.due("one in class " + c + " with one", x.seating(1, 0, c, 1, 1), NONE);
        }
    }

    private static void firstWrongAtBothEnds() {
        for (int wrong = 0; wrong < 8; wrong++) {
            RegretLine x = Check.on("r414;--------,p000,p000");
            x.sheet(1, 0, 16);
            for (int mile = wrong; mile < 8; mile += 3) {
                x.put(1, 2 * mile, 1);
                x.put(1, 2 * mile + 1, 1);
            }
            Check.due("first wrong", x.seating(1, 0, 0, 16, 1), wrong);
            for (int what : new int[] {0, 2, 3, 10, 11}) {
                Check.due("-100 less it, what " + what, x.seating(1, 0, 0, 16, what), -100 - wrong);
            }
            x.seats(1, 2);
            Check.due("not wrong with a seat more", x.seating(1, 0, 0, 16, 1), NONE);
        }
    }

    /** Wrong in a MILE is by how many sit in it alone: others in other MILES don't count. */
    private static void wrongAheadOfAll() {
        RegretLine x = withRow("r110;--,p000,p000", 0, 0, 1, 1, 0);
        Check.due("each has a seat in each mile", x.seating(1, 0, 0, 4, 1), NONE);
        Check.due("they change", x.seating(1, 0, 0, 4, 2), 2);
        x.put(1, 2, 0);
        Check.due("both in one seat", x.seating(1, 0, 0, 4, 1), 1);
        Check.due("above does not matter then", x.seating(1, 0, 0, 4, 3), -101);
    }

    private static void noSuchPassenger() {
        String[] texts = {"r444;-,p500", "r444;-,p500,p500", "r444;-,p500,p500,p500", "r444;-,p500,p500,p500,p500"};
        for (int many = 1; many < 5; many++) {
            RegretLine x = withRow(texts[many - 1], 0, 0, 0, 0, 0);
            for (int p = 0; p < 4; p++) {
                Check.due("above: " + p + " of " + many, x.seating(1, 0, 0, many, 10 + p), p < many ? 1 : NONE);
                Check.due("no fault", x.fault(), 0);
            }
        }
    }

    private static void theMostThereCanBe() {
        RegretLine x = Check.on("r444;--------,p000,p000,p000,p000");
        Check.row(x, 1, 0, new int[32]);
        Check.due("all in class 0", x.seating(1, 0, 0, 32, 0), 0);
        Check.due("31 cells", x.seating(1, 0, 0, 31, 0), OUTSIDE);
        Check.due("33 cells", x.seating(1, 0, 0, 33, 0), -13);
        for (int k = 0; k < 32; k++) {
            x.put(1, k, k / 4 % 2 == 0 ? 2 : 0);
        }
        Check.due("changes all the time", x.seating(1, 0, 0, 32, 2), 28);
        Check.due("and low", x.seating(1, 0, 0, 32, 0), 28 + 32);
        x.limits(0, 0);
        Check.due("due in class 2: above", x.seating(1, 0, 0, 32, 3), 16);
        Check.due("nobody is low", x.seating(1, 0, 0, 32, 0), 28);
        for (int p = 0; p < 4; p++) {
            Check.due("above: " + p, x.seating(1, 0, 0, 32, 10 + p), 4);
        }
    }

    /** By each class one sits in and each one is due in. */
    private static void aboveAndLow() {
        String[] texts = {"r444;-,p190", "r444;-,p200", "r444;-,p400"};
        for (int due = 0; due < 3; due++) {
            for (int c = 0; c < 3; c++) {
                RegretLine x = withRow(texts[due], 0, c);
                String told = "due in " + due + ", sits in " + c;
                Check.due(told + ": trouble", x.seating(1, 0, 0, 1, 0), Math.max(0, c - due));
                Check.due(told + ": changes", x.seating(1, 0, 0, 1, 2), 0);
                Check.due(told + ": above", x.seating(1, 0, 0, 1, 3), c < due ? 1 : 0);
                Check.due(told + ": above, of 0", x.seating(1, 0, 0, 1, 10), c < due ? 1 : 0);
            }
        }
    }

    private static void changesFromMileToMile() {
        RegretLine x = withRow("r444;--,p000,p000", 0, 0, 1, 1, 0);
        Check.due("both change", x.seating(1, 0, 0, 4, 2), 2);
        Check.row(x, 1, 0, 0, 1, 0, 1);
        Check.due("beside one another is no change", x.seating(1, 0, 0, 4, 2), 0);
        Check.row(x, 1, 0, 0, 1, 1, 1);
        Check.due("the first one changes", x.seating(1, 0, 0, 4, 2), 1);
        Check.row(x, 1, 0, 0, 2, 0, 0);
        Check.due("two classes are one change", x.seating(1, 0, 0, 4, 2), 1);
        RegretLine y = withRow("r444;-,p000,p000", 0, 0, 2);
        Check.due("none in one mile", y.seating(1, 0, 0, 2, 2), 0);
    }

    private static RegretLine twoSeated() {
        RegretLine x = Made.two();
        Check.row(x, 1, 1, 1, 2, 1, 2);
        return x;
    }

    private static void seatingChangesNothing() {
        int[] want = {0, NONE, 0, 0, 0, 0, NONE, NONE};
        for (int k = 0; k < WHATS.length; k++) {
            int what = WHATS[k];
            Twin.refused("a seating, what " + what, SeatingBoundsTest::twoSeated, x -> x.seating(1, 1, 0, 4, what),
                want[k], 0);
        }
    }
}
