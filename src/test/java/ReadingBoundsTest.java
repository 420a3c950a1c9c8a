/** Promises 14 to 19: bounds of readings, of what is found by them, and of odds. */
public final class ReadingBoundsTest {
    private static final int UNKNOWN = RegretLine.UNKNOWN, OUTSIDE = RegretLine.OUTSIDE;
    private static final int FULL = RegretLine.FULL, NONE = RegretLine.NONE;
    private static final int MIN = Integer.MIN_VALUE, MAX = Integer.MAX_VALUE;
    private static final int[] NOBODY = {-1, 2, 3, 4, NONE, MIN, MAX};

    public static void main(String[] args) {
        readingRefused();
        readingAtItsEnds();
        readingsFull();
        backRefused();
        backAtItsEnds();
        backTakesTheLast();
        beganRefused();
        beganAtItsEnds();
        beganOfNone();
        kindsRefused();
        kindsOneByOne();
        fadingsRefused();
        fadingsAtTheirEnds();
        readingsOfOthers();
        oddsRefused();
        oddsAtTheirEnds();
        oddsOfOneMile();
        oddsInLeastTerms();
        askingChangesNothing();
        Check.finish("ReadingBoundsTest");
    }

    private static void readingRefused() {
        for (int p : NOBODY) {
            Twin.refused("reading of " + p, Made::two, x -> x.reading(p, 0, 0), UNKNOWN);
            Twin.refused("reading of " + p + " nowhere", Made::two, x -> x.reading(p, 3, 3), UNKNOWN);
        }
        for (int mile : new int[] {-1, 3, 9, MIN, MAX}) {
            Twin.refused("reading in " + mile, Made::two, x -> x.reading(0, mile, 0), OUTSIDE);
        }
        for (int c : new int[] {-1, 3, MIN, MAX}) {
            Twin.refused("reading of class " + c, Made::two, x -> x.reading(0, 0, c), OUTSIDE);
        }
        Twin.refused("no line: reading", Made::withoutLine, x -> x.reading(0, 0, 0), UNKNOWN);
        Twin.refused("no line: reading, OUTSIDE", Made::withoutLine, x -> x.reading(0, 1, 3), UNKNOWN);
    }

    private static void readingAtItsEnds() {
        RegretLine x = Check.on("r444;--------,p000,p000,p000,p500");
        Check.due("of the first in the first mile", x.reading(0, 0, 0), 0);
        Check.due("of the last behind the last mile", x.reading(3, 8, 2), 1);
        Check.due("both are so", x.began(0, 0), 20);
        Check.due("and of the last", x.began(3, 0), 20);
        Check.due("behind that", x.reading(3, 9, 2), OUTSIDE);
        Check.due("a fifth one", x.reading(4, 8, 2), UNKNOWN);
        RegretLine one = Made.least();
        Check.due("behind the only mile", one.reading(0, 1, 2), 0);
        Check.due("behind that", one.reading(0, 2, 2), OUTSIDE);
    }

    private static void readingsFull() {
        RegretLine x = Check.on("r444;-,p300");
        for (int k = 0; k < 8; k++) {
            Check.due("reading " + k, x.reading(0, 0, 1), k);
        }
        Check.due("a ninth", x.reading(0, 0, 1), FULL);
        Check.due("a ninth again", x.reading(0, 0, 1), FULL);
        Check.due("eight", x.many(2), 8);
        Check.due("one back", x.back(1), 7);
        Check.due("an eighth", x.reading(0, 0, 1), 7);
        Check.due("a ninth still", x.reading(0, 0, 1), FULL);
        Twin.refused("a ninth changes nothing", Made::most, y -> y.reading(0, 0, 0), FULL);
        Twin.refused("a ninth of nobody", Made::most, y -> y.reading(4, 0, 0), UNKNOWN);
        Twin.refused("a ninth nowhere", Made::most, y -> y.reading(0, 9, 0), OUTSIDE);
        Twin.refused("a ninth in no class", Made::most, y -> y.reading(0, 8, 3), OUTSIDE);
        Check.due("a new line", Check.take(x, "r444;-,p300"), 1);
        Check.due("the first", x.reading(0, 0, 1), 0);
    }

    private static void backRefused() {
        for (int k : new int[] {-1, 3, 8, NONE, MIN, MAX}) {
            Twin.refused("back(" + k + ") of two", Made::two, x -> x.back(k), OUTSIDE);
        }
        Twin.refused("back(9) of eight", Made::most, x -> x.back(9), OUTSIDE);
        Twin.refused("back(1) of none", Made::least, x -> x.back(1), OUTSIDE);
        Twin.refused("back(1) without a line", Made::withoutLine, x -> x.back(1), OUTSIDE);
        Twin.refused("back(-1) without a line", Made::withoutLine, x -> x.back(-1), OUTSIDE);
    }

    private static void backAtItsEnds() {
        Twin.refused("back(0) without a line", Made::withoutLine, x -> x.back(0), 0);
        Twin.refused("back(0) of none", Made::least, x -> x.back(0), 0);
        Twin.refused("back(0) of two", Made::two, x -> x.back(0), 2);
        Twin.refused("back(0) of eight", Made::most, x -> x.back(0), 8);
        Check.due("all eight", Made.most().back(8), 0);
        Check.due("but one", Made.most().back(7), 1);
        Check.due("both", Made.two().back(2), 0);
    }

    private static void backTakesTheLast() {
        RegretLine x = Check.on("r444;-,p300");
        x.reading(0, 0, 1);
        x.reading(0, 0, 2);
        Check.due("both can't be", x.began(0, 0), 0);
        x.back(1);
        Check.due("the first is left", x.began(0, 1), 20);
        x.reading(0, 0, 1);
        x.back(2);
        x.reading(0, 0, 2);
        Check.due("the second alone", x.began(0, 1), 40);
    }

    private static void beganRefused() {
        for (int p : NOBODY) {
            Twin.refused("began of " + p, Made::two, x -> x.began(p, 0), UNKNOWN);
            Twin.refused("began of " + p + ", no what", Made::two, x -> x.began(p, 2), UNKNOWN);
        }
        for (int what : new int[] {-1, 2, MIN, MAX}) {
            Twin.refused("began, what " + what, Made::two, x -> x.began(1, what), OUTSIDE);
        }
        Twin.refused("no line: began", Made::withoutLine, x -> x.began(0, 0), UNKNOWN);
        Twin.refused("a fifth: began", Made::most, x -> x.began(4, 0), UNKNOWN);
    }

    private static void found(RegretLine x, String name, int many, int least) {
        Check.due(name + ": how many", x.began(0, 0), many);
        Check.due(name + ": the least", x.began(0, 1), least);
    }

    private static void beganAtItsEnds() {
        RegretLine x = Check.on("r444;-,p305");
        found(x, "no readings", 60, 0);
        x.limits(1, 59);
        x.reading(0, 0, 0);
        found(x, "nothing alone", 1, 0);
        x.back(1);
        x.reading(0, 0, 2);
        found(x, "59 alone", 1, 59);
        x.back(1);
        x.reading(0, 0, 1);
        found(x, "all between", 58, 1);
        x.limits(58, 59);
        found(x, "58 alone", 1, 58);
        x.limits(0, 99);
        found(x, "any", 60, 0);
        x.back(1);
        x.reading(0, 1, 0);
        x.limits(1, 99);
        found(x, "faded to nothing", 6, 0);
    }

    private static void beganOfNone() {
        RegretLine x = Check.on("r444;-,p305");
        x.limits(60, 60);
        x.reading(0, 0, 2);
        found(x, "60 is none", 0, NONE);
        x.limits(59, 60);
        found(x, "59 is not as read", 0, NONE);
        x.limits(59, 59);
        found(x, "59", 1, 59);
        x.limits(0, 0);
        found(x, "any", 60, 0);
        x.reading(0, 0, 0);
        found(x, "two classes at once", 0, NONE);
    }

    private static void kindsRefused() {
        for (int p : NOBODY) {
            Twin.refused("kinds of " + p, Made::two, x -> x.kinds(p), UNKNOWN);
        }
        Twin.refused("a fifth: kinds", Made::most, x -> x.kinds(4), UNKNOWN);
        Twin.refused("no line: kinds", Made::withoutLine, x -> x.kinds(0), UNKNOWN);
    }

    private static void kindsOneByOne() {
        for (String kind : new String[] {"p", "w", "h"}) {
            RegretLine x = Check.on("r444;-u," + kind + "205");
            // 15 20, 16 21, 15 25.
            Check.due("no readings", x.kinds(0), 7);
            x.limits(21, 25);
            x.reading(0, 2, 0);
            Check.due("a passenger", x.kinds(0), 1);
            x.back(1);
            x.reading(0, 2, 1);
            Check.due("a widow", x.kinds(0), 2);
            x.back(1);
            x.reading(0, 2, 2);
            Check.due("a honeymooner", x.kinds(0), 4);
            x.limits(15, 16);
            x.reading(0, 1, 1);
            Check.due("a passenger, a honeymooner", x.kinds(0), 5);
            x.reading(0, 0, 0);
            Check.due("none", x.kinds(0), 0);
            Check.due("it is what it was", x.ofPassenger(0, 0), "pwh".indexOf(kind));
        }
    }

    private static void fadingsRefused() {
        for (int p : NOBODY) {
            Twin.refused("fadings of " + p, Made::two, x -> x.fadings(p), UNKNOWN);
        }
        Twin.refused("a fifth: fadings", Made::most, x -> x.fadings(4), UNKNOWN);
        Twin.refused("no line: fadings", Made::withoutLine, x -> x.fadings(0), UNKNOWN);
    }

    private static void fadingsAtTheirEnds() {
        RegretLine x = Check.on("r444;-,p205");
        Check.due("no readings", x.fadings(0), 1023);
        x.reading(0, 1, 1);
        Check.due("0 alone", x.fadings(0), 1);
        x.limits(12, 20);
        Check.due("1 .. 8", x.fadings(0), 510);
        x.back(1);
        x.reading(0, 1, 0);
        Check.due("9 alone", x.fadings(0), 512);
        x.limits(11, 20);
        Check.due("none", x.fadings(0), 0);
        RegretLine w = Check.on("r444;-,w205");
        w.reading(0, 1, 1);
        Check.due("a widow's: 0 and 1 are alike", w.fadings(0), 3);
        w.limits(13, 20);
        Check.due("a widow's: 2 .. 8", w.fadings(0), 508);
        w.back(1);
        w.reading(0, 1, 0);
        Check.due("a widow's: 9 alone", w.fadings(0), 512);
        RegretLine u = Check.on("r444;u,p205");
        u.reading(0, 1, 1);
        Check.due("no fading in a tunnel: all", u.fadings(0), 1023);
        u.reading(0, 1, 0);
        Check.due("no fading in a tunnel: none", u.fadings(0), 0);
    }

    /** All READINGS, also of others, are to be so by what is guessed of one. */
    private static void readingsOfOthers() {
        RegretLine x = Check.on("r444;-,p300,p300");
        x.reading(1, 0, 1);
        Check.due("as it is", x.began(0, 0), 60);
        Check.due("kinds", x.kinds(0), 7);
        Check.due("fadings", x.fadings(0), 1023);
        x.reading(1, 0, 2);
        Check.due("not as it is", x.began(0, 0), 0);
        Check.due("not as it is: the least", x.began(0, 1), NONE);
        Check.due("not as it is: kinds", x.kinds(0), 0);
        Check.due("not as it is: fadings", x.fadings(0), 0);
    }

    private static void oddsRefused() {
        for (int p : NOBODY) {
            Twin.refused("odds of " + p, Made::two, x -> x.odds(p, 0, 0), RegretLine.LOST);
        }
        for (int c : new int[] {-1, 3, MIN, MAX}) {
            Twin.refused("odds of class " + c, Made::two, x -> x.odds(0, c, 0), RegretLine.LOST);
        }
        for (int which : new int[] {-1, 2, MIN, MAX}) {
            Twin.refused("odds, which " + which, Made::two, x -> x.odds(0, 0, which), RegretLine.LOST);
        }
        Twin.refused("a fifth: odds", Made::most, x -> x.odds(4, 0, 0), RegretLine.LOST);
        Twin.refused("no line: odds", Made::withoutLine, x -> x.odds(0, 0, 0), RegretLine.LOST);
    }

    private static void share(RegretLine x, String name, int p, int c, long upper, long lower) {
        Check.due(name + ": upper", x.odds(p, c, 0), upper);
        Check.due(name + ": lower", x.odds(p, c, 1), lower);
    }

    private static void oddsAtTheirEnds() {
        RegretLine x = Check.on("r444;--------,p000,p000,p000,h590");
        x.limits(40, 40);
        share(x, "all eight are tunnels", 0, 2, 1, 256);
        share(x, "not all are", 0, 0, 255, 256);
        share(x, "no class between", 0, 1, 0, 1);
        x.limits(99, 99);
        share(x, "never", 0, 2, 0, 1);
        share(x, "always", 0, 0, 1, 1);
        // 4 tunnels bring 59 to 99, as nothing fades: 256 less 1 + 8 + 28 + 56 of 0 .. 3.
        share(x, "the last one at the most", 3, 2, 163, 256);
        share(x, "and below it", 3, 0, 93, 256);
    }

    private static void oddsOfOneMile() {
        RegretLine x = Check.on("r444;u,p195");
        share(x, "open", 0, 0, 1, 2);
        share(x, "a tunnel", 0, 1, 1, 2);
        share(x, "never", 0, 2, 0, 1);
        x.limits(0, 0);
        share(x, "always", 0, 2, 1, 1);
        share(x, "never now", 0, 0, 0, 1);
    }

    private static void oddsInLeastTerms() {
        RegretLine x = Check.on("r444;---,p000");
        // 0, 5, 10, 15 by 1, 3, 3, 1 of 8 ways.
        x.limits(5, 10);
        share(x, "1 of 8", 0, 0, 1, 8);
        share(x, "3 of 8", 0, 1, 3, 8);
        share(x, "4 of 8", 0, 2, 1, 2);
        x.limits(5, 15);
        share(x, "6 of 8", 0, 1, 3, 4);
        x.limits(15, 16);
        share(x, "7 of 8", 0, 0, 7, 8);
        x.limits(16, 16);
        share(x, "8 of 8", 0, 0, 1, 1);
    }

    private static void askingChangesNothing() {
        // Half of 10 more than it and 70 is below 45.
        Twin.refused("began", Made::two, x -> x.began(0, 0), 10);
        Twin.refused("began, the least", Made::two, x -> x.began(0, 1), 0);
        Twin.refused("kinds", Made::two, x -> x.kinds(1), 0);
        Twin.refused("fadings", Made::two, x -> x.fadings(1), 0);
        // 35 45 45 55.
        Twin.refused("odds, upper", Made::two, x -> x.odds(1, 2, 0), 3);
        Twin.refused("odds, lower", Made::two, x -> x.odds(1, 2, 1), 4);
        // 41, 5 more or 6 less: 5 tunnels and more, by 56 + 28 + 8 + 1 of 256 ways.
        Twin.refused("odds of the most", Made::most, x -> x.odds(1, 2, 0), 93);
    }
}
