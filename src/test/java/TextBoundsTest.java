/** Terms, part 1, and promise 2: where a TEXT goes on no more, and what of a SHEET can be taken as one. */
public final class TextBoundsTest {
    private static final int UNKNOWN = RegretLine.UNKNOWN, OUTSIDE = RegretLine.OUTSIDE;
    private static final int MIN = Integer.MIN_VALUE, MAX = Integer.MAX_VALUE;
    private static final String MOST = "r444;-u-u-u-u,p000,w599,h050,p599";
    private static final String DIGITS = "0123456789";

    public static void main(String[] args) {
        everyCodeBehindEachBeginning();
        everyCodeOfWiderLanes();
        theLongestText();
        theShortestText();
        textThatEndsTooSoon();
        faultAheadOfTheEnd();
        digitsAtTheirEnds();
        cellsBehindTheTextDontCount();
        textAtTheEndOfTheRow();
        textWithAFaultChangesNothing();
        refusals();
        faults();
        faultsInTheirOrder();
        noneOfTheCells();
        allAnew();
        Check.finish("TextBoundsTest");
    }

    private static int take(String begun, int code) {
        RegretLine x = new RegretLine();
        int n = begun.length() + 1;
        Check.row(x, 0, 0, (begun + "?").chars().toArray());
        x.put(0, n - 1, code);
        return x.line(0, 0, 0, n);
    }

    /** Behind a beginning no codes but these go on; of a passenger's last digit the TEXT may end. */
    private static void goesOn(String begun, String codes, int passengersThen) {
        for (int code = -128; code < 128; code++) {
            boolean fits = code >= 0 && codes.indexOf(code) >= 0;
            int n = begun.length();
            int want = !fits ? -100 - n : passengersThen > 0 ? passengersThen : -101 - n;
            Check.due("'" + begun + "' and code " + code, take(begun, code), want);
        }
    }

    private static void everyCodeBehindEachBeginning() {
        goesOn("", "r", 0);
        goesOn("r", "01234", 0);
        goesOn("r4", "01234", 0);
        goesOn("r40", "01234", 0);
        goesOn("r404", ";", 0);
        goesOn("r404;", "-u", 0);
        for (int miles = 1; miles < 8; miles++) {
            goesOn("r404;" + "-uu-u--".substring(0, miles), "-u,", 0);
        }
        goesOn("r404;uuuuuuu-", ",", 0);
        goesOn("r404;-------u", ",", 0);
        String[] before = {"r404;-", "r404;-,p599", "r404;-,p599,w000", "r404;-,p599,w000,h509"};
        for (int p = 0; p < 4; p++) {
            goesOn(before[p] + ",", "pwh", 0);
            for (String kind : new String[] {"p", "w", "h"}) {
                goesOn(before[p] + "," + kind, "012345", 0);
                goesOn(before[p] + "," + kind + "5", DIGITS, 0);
                goesOn(before[p] + "," + kind + "59", DIGITS, p + 1);
            }
        }
        for (int p = 1; p < 4; p++) {
            goesOn(before[p], ",", 0);
        }
        goesOn("r404;-,p599,w000,h509,p000", "", 0);
        goesOn(MOST, "", 0);
    }

    /** A code that is right but for what is above a byte (a short) is another number, and no code. */
    private static void everyCodeOfWiderLanes() {
        for (int place = 0; place < MOST.length(); place++) {
            for (int lane = 1; lane < 3; lane++) {
                RegretLine x = new RegretLine();
                Check.row(x, 0, lane, MOST.chars().toArray());
                Check.due("as it is, lane " + lane, x.line(0, lane, 0, 33), 4);
                x.put(0, place, MOST.charAt(place) + (lane == 1 ? 256 : 65536));
                Check.due("above a lane at " + place, x.line(0, lane, 0, 33), -100 - place);
                x.put(0, place, MOST.charAt(place) + (lane == 1 ? 65536 : 0));
                Check.due("cut to its lane at " + place, x.line(0, lane, 0, 33), 4);
            }
            RegretLine x = new RegretLine();
            Check.row(x, 0, 0, MOST.chars().toArray());
            x.put(0, place, MOST.charAt(place) - 256);
            Check.due("cut to a byte at " + place, x.line(0, 0, 0, 33), 4);
        }
    }

    private static void theLongestText() {
        RegretLine x = new RegretLine();
        Check.due("four on eight miles", Check.take(x, MOST), 4);
        Check.due("eight miles", x.many(1), 8);
        Check.due("a fifth passenger", Check.take(x, MOST + ",p000"), -133);
        Check.due("just its ,", Check.take(x, MOST + ","), -133);
        Check.due("a ninth mile", Check.take(x, "r444;-u-u-u-u-,p000"), -113);
        Check.due("a ninth mile, a tunnel", Check.take(x, "r444;-u-u-u-uu,p000"), -113);
        Check.due("a ninth mile in place of a passenger", Check.take(x, "r444;-u-u-u-u-"), -113);
        Check.due("eight miles and no passenger", Check.take(x, "r444;-u-u-u-u"), -113);
    }

    private static void theShortestText() {
        RegretLine x = new RegretLine();
        Check.due("one on one mile", Check.take(x, "r000;-,p000"), 1);
        Check.due("one mile", x.many(1), 1);
        Check.due("no mile", Check.take(x, "r000;,p000"), -105);
        Check.due("no passenger", Check.take(x, "r000;-"), -106);
        Check.due("no code", Check.take(x, ""), -100);
    }

    private static void textThatEndsTooSoon() {
        for (int n = 0; n < MOST.length(); n++) {
            int passengers = (n - 13) / 5;
            boolean whole = n > 13 && (n - 13) % 5 == 0;
            RegretLine x = new RegretLine();
            Check.due("its first " + n + " codes", Check.take(x, MOST.substring(0, n)), whole ? passengers : -100 - n);
            Check.due("passengers then", x.many(0), whole ? passengers : 0);
        }
    }

    private static void faultAheadOfTheEnd() {
        RegretLine x = new RegretLine();
        Check.due("a fault, and it ends too soon", Check.take(x, "r5"), -101);
        Check.due("two faults", Check.take(x, "r494;x"), -102);
        Check.due("a fault in the last code", Check.take(x, "r444;-,p59x"), -110);
        Check.due("a fault behind a passenger", Check.take(x, "r444;-,p599x"), -111);
        Check.due("a first digit above 5, whatever follows", Check.take(x, "r444;-,p6x"), -108);
        Check.due("60 regrets", Check.take(x, "r444;-,p600"), -108);
        Check.due("five classes", Check.take(x, "r4444;-,p000"), -104);
        Check.due("two classes", Check.take(x, "r44;-,p000"), -103);
    }

    private static void digitsAtTheirEnds() {
        RegretLine x = Check.on("r040;-,p000,w590,h059,p599");
        int[] seats = {0, 4, 0};
        for (int c = 0; c < 3; c++) {
            Check.due("seats of class " + c, x.seats(c, 0), seats[c]);
        }
        int[][] told = {{0, 0, 0}, {1, 59, 0}, {2, 5, 9}, {0, 59, 9}};
        for (int p = 0; p < 4; p++) {
            for (int what = 0; what < 3; what++) {
                Check.due("told of " + p, x.ofPassenger(p, what), told[p][what]);
            }
        }
    }

    private static void cellsBehindTheTextDontCount() {
        RegretLine x = new RegretLine();
        Check.row(x, 0, 0, ("," + MOST + ",p000").chars().toArray());
        Check.due("from 1 on", x.line(0, 0, 1, 33), 4);
        Check.due("one passenger less", x.line(0, 0, 1, 28), 3);
        Check.due("one code more", x.line(0, 0, 1, 34), -133);
        Check.due("from 0 on", x.line(0, 0, 0, 33), -100);
        Check.due("from 2 on", x.line(0, 0, 2, 33), -100);
    }

    private static void textAtTheEndOfTheRow() {
        for (int lane = 0; lane < 3; lane++) {
            RegretLine x = new RegretLine();
            x.sheet(3, lane, 60);
            for (int k = 0; k < 33; k++) {
                x.put(3, 27 + k, MOST.charAt(k));
            }
            Check.due("up to the last cell of 60", x.line(3, lane, 27, 33), 4);
            Check.due("beyond it", x.line(3, lane, 27, 34), -13);
            Check.due("beyond it from 28 on", x.line(3, lane, 28, 33), -13);
            Check.due("all 60", x.line(3, lane, 0, 60), -100);
        }
    }

    private static void textWithAFaultChangesNothing() {
        for (int n = 0; n < 17; n++) {
            if (n == 12) {
                continue;
            }
            int codes = n;
            Twin.refused("the first " + n + " codes", Made::two, x -> x.line(0, 0, 0, codes), -100 - n, 0);
        }
        Twin.refused("codes from 1 on", Made::two, x -> x.line(0, 0, 1, 16), -100, 0);
        Twin.refused("a text of none", Made::most, x -> x.line(0, 0, 33, 0), -100, 0);
        Twin.refused("no text without a line", Made::withoutLine, x -> x.line(0, 0, 0, 4), -103, 0);
    }

    private static void refusals() {
        int[] noSheets = {-1, 4, MIN, MAX};
        for (int k : noSheets) {
            Twin.refused("line of sheet " + k, Made::two, x -> x.line(k, 0, 0, 17), UNKNOWN, 0);
            Twin.refused("and all else wrong", Made::two, x -> x.line(k, 3, -1, -1), UNKNOWN, 0);
        }
        int[] noLanes = {-1, 3, MIN, MAX};
        for (int lane : noLanes) {
            Twin.refused("line of lane " + lane, Made::two, x -> x.line(0, lane, 0, 17), OUTSIDE, 0);
            Twin.refused("of nothing", Made::two, x -> x.line(3, lane, 0, 0), OUTSIDE, 0);
            Twin.refused("and all else wrong", Made::two, x -> x.line(0, lane, -1, -1), OUTSIDE, 0);
        }
        for (int k = 0; k < 4; k++) {
            RegretLine x = new RegretLine();
            Check.row(x, k, 0, MOST.chars().toArray());
            Check.due("line of sheet " + k, x.line(k, 0, 0, 33), 4);
        }
    }

    private static void faults() {
        for (int lane = 0; lane < 3; lane++) {
            int as = lane;
            Twin.faulty("nothing as lane " + lane, Made::two, x -> x.line(3, as, 0, 0), 1);
            for (int k = 0; k < 3; k++) {
                int sheet = k;
                if (k != lane) {
                    Twin.faulty("sheet " + k + " as lane " + lane, Made::two, x -> x.line(sheet, as, 0, 1), 2);
                }
            }
        }
        Twin.faulty("n is -1", Made::two, x -> x.line(0, 0, 0, -1), 4);
        Twin.faulty("n is least", Made::two, x -> x.line(0, 0, 0, MIN), 4);
        Twin.faulty("n is one above", Made::two, x -> x.line(0, 0, 0, 18), 3);
        Twin.faulty("i and n are one above", Made::two, x -> x.line(0, 0, 1, 17), 3);
        Twin.faulty("i is -1", Made::two, x -> x.line(0, 0, -1, 17), 3);
        Twin.faulty("i is -1, n makes up for it", Made::two, x -> x.line(0, 0, -1, 1), 3);
        Twin.faulty("i is how many there are, n is 1", Made::two, x -> x.line(0, 0, 17, 1), 3);
        Twin.faulty("n is most", Made::two, x -> x.line(0, 0, 0, MAX), 3);
        Twin.faulty("both are most: their sum is -2", Made::two, x -> x.line(0, 0, MAX, MAX), 3);
        Twin.faulty("i is most: the sum wraps", Made::two, x -> x.line(0, 0, MAX, 1), 3);
        Twin.faulty("i is least", Made::two, x -> x.line(0, 0, MIN, 17), 3);
        Twin.faulty("i is least, n is most", Made::two, x -> x.line(0, 0, MIN, MAX), 3);
        Twin.faulty("without a line, too", Made::withoutLine, x -> x.line(0, 0, 0, 5), 3);
    }

    private static void faultsInTheirOrder() {
        Twin.faulty("nothing, SIZE, INDEX", Made::two, x -> x.line(3, 2, -1, -1), 1);
        Twin.faulty("nothing, INDEX", Made::two, x -> x.line(3, 2, 0, 1), 1);
        Twin.faulty("CAST, SIZE, INDEX", Made::two, x -> x.line(0, 1, -1, -1), 2);
        Twin.faulty("CAST, INDEX", Made::two, x -> x.line(0, 1, 18, 1), 2);
        Twin.faulty("SIZE, INDEX", Made::two, x -> x.line(0, 0, -1, -1), 4);
        Twin.faulty("SIZE, INDEX beyond", Made::two, x -> x.line(0, 0, 18, -1), 4);
        Twin.faulty("INDEX, a FIRST FAULT", Made::two, x -> x.line(0, 0, 1, 17), 3);
    }

    /** INDEX: of cells from i on also where i is not 0 .. how many there are, if none is taken, too. */
    private static void noneOfTheCells() {
        Twin.refused("none from 0 on", Made::two, x -> x.line(0, 0, 0, 0), -100, 0);
        Twin.refused("none from the end on", Made::two, x -> x.line(0, 0, 17, 0), -100, 0);
        Twin.faulty("none from behind the end on", Made::two, x -> x.line(0, 0, 18, 0), 3);
        Twin.faulty("none from -1 on", Made::two, x -> x.line(0, 0, -1, 0), 3);
        Twin.faulty("none from the most on", Made::two, x -> x.line(0, 0, MAX, 0), 3);
        Twin.faulty("none from the least on", Made::two, x -> x.line(0, 0, MIN, 0), 3);
        RegretLine x = new RegretLine();
        x.sheet(0, 2, 0);
        Check.due("none of an empty row", x.line(0, 2, 0, 0), -100);
        Check.due("one of an empty row", x.line(0, 2, 0, 1), -13);
        Check.due("none behind an empty row", x.line(0, 2, 1, 0), -13);
    }

    private static void allAnew() {
        RegretLine x = Made.most();
        x.limits(1, 2);
        x.seats(0, 0);
        Check.due("one on one mile behind the most", Check.take(x, "r321;u,w101"), 1);
        Check.due("no readings", x.back(1), OUTSIDE);
        Check.due("passengers", x.many(0), 1);
        Check.due("miles", x.many(1), 1);
        Check.due("no passenger 1", x.ofPassenger(1, 0), UNKNOWN);
        Check.due("no mile 1", x.dig(1, true), OUTSIDE);
        Check.due("the most behind that", Check.take(x, MOST), 4);
        for (int mile = 0; mile < 8; mile++) {
            Check.due("nobody talks in mile " + mile, x.talk(mile, -9, -9), -9);
            Check.due("tunnels are as told", x.dig(mile, mile % 2 == 1), 0);
        }
        Check.due("limits", x.limits(20, 40), 2040);
        Check.due("seats", x.seats(0, 4), 4);
        Check.due("ease is of the new line", x.ease(0), 0);
        Check.due("trace is left as it was", x.trace(), 5);
    }
}
