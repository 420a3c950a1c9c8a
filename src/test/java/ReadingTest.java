/** Promises 14 to 19: readings and odds. */
public final class ReadingTest {
    private static final int UNKNOWN = RegretLine.UNKNOWN, OUTSIDE = RegretLine.OUTSIDE;
    private static final int FULL = RegretLine.FULL, NONE = RegretLine.NONE;
    private static final long LOST = RegretLine.LOST;

    public static void main(String[] args) {
        readings();
        back();
        began();
        beganByOthers();
        fourOnEightMiles();
        kinds();
        fadings();
        guessesLeaveTheLine();
        odds();
        oddsOfWhatIsThere();
        Check.finish("ReadingTest");
    }

    private static void readings() {
        RegretLine x = Check.on("r444;--,p305,w100");
        Check.due("reading(2, 9, 9)", x.reading(2, 9, 9), UNKNOWN);
        Check.due("reading(-1, 0, 0)", x.reading(-1, 0, 0), UNKNOWN);
        Check.due("reading(0, 3, 0)", x.reading(0, 3, 0), OUTSIDE);
        Check.due("reading(0, -1, 0)", x.reading(0, -1, 0), OUTSIDE);
        Check.due("reading(0, 0, 3)", x.reading(0, 0, 3), OUTSIDE);
        Check.due("reading(0, 0, -1)", x.reading(0, 0, -1), OUTSIDE);
        for (int k = 0; k < 8; k++) {
            Check.due("reading " + k, x.reading(k % 2, k % 3, k % 3), k);
            Check.due("many(2)", x.many(2), k + 1);
        }
        Check.due("a ninth", x.reading(0, 0, 0), FULL);
        Check.due("a ninth of nobody", x.reading(2, 0, 0), UNKNOWN);
        Check.due("a ninth elsewhere", x.reading(0, 3, 0), OUTSIDE);
        Check.due("still 8", x.many(2), 8);
    }

    private static void back() {
        RegretLine none = new RegretLine();
        Check.due("back(0) without a line", none.back(0), 0);
        Check.due("back(1) without a line", none.back(1), OUTSIDE);
        RegretLine x = Check.on("r444;--,p305");
        for (int k = 0; k < 8; k++) {
            x.reading(0, 0, k % 3);
        }
        Check.due("back(-1)", x.back(-1), OUTSIDE);
        Check.due("back(9)", x.back(9), OUTSIDE);
        Check.due("back(0)", x.back(0), 8);
        Check.due("back(3)", x.back(3), 5);
        Check.due("back(6)", x.back(6), OUTSIDE);
        Check.due("many(2)", x.many(2), 5);
        Check.due("the next number", x.reading(0, 0, 0), 5);
        Check.due("back(6) now", x.back(6), 0);
        Check.due("back(1) of none", x.back(1), OUTSIDE);
        Check.due("all are so", x.began(0, 0), 60);
    }

    private static void began() {
        RegretLine x = Check.on("r444;-,p305");
        Check.due("any: how many", x.began(0, 0), 60);
        Check.due("any: the least", x.began(0, 1), 0);
        x.reading(0, 1, 0);
        Check.due("0 .. 24: how many", x.began(0, 0), 25);
        x.reading(0, 0, 1);
        Check.due("20 .. 24: how many", x.began(0, 0), 5);
        Check.due("20 .. 24: the least", x.began(0, 1), 20);
        x.reading(0, 0, 2);
        Check.due("none", x.began(0, 0), 0);
        Check.due("the least of none", x.began(0, 1), NONE);
        x.back(3);
        x.reading(0, 1, 2);
        Check.due("45 .. 59: how many", x.began(0, 0), 15);
        Check.due("45 .. 59: the least", x.began(0, 1), 45);
        Check.due("began(0, 2)", x.began(0, 2), OUTSIDE);
        Check.due("began(0, -1)", x.began(0, -1), OUTSIDE);
        Check.due("began(1, 2)", x.began(1, 2), UNKNOWN);
        Check.due("began(-1, 0)", x.began(-1, 0), UNKNOWN);
    }

    private static void beganByOthers() {
        RegretLine x = Check.on("r444;-,p300,p100");
        x.reading(1, 1, 1);
        Check.due("who has nothing to do with it", x.began(0, 0), 0);
        Check.due("its least", x.began(0, 1), NONE);
        Check.due("who it is about", x.began(1, 0), 20);
        x.talk(0, 1, 0);
        // Half of 10 and b is 20 .. 39, if b is 30 .. 69.
        Check.due("talked: how many", x.began(0, 0), 30);
        Check.due("talked: the least", x.began(0, 1), 30);
        Check.due("talked: of the other one", x.began(1, 1), 10);
        x.limits(10, 20);
        Check.due("other limits: how many", x.began(0, 0), 20);
        Check.due("other limits: the least", x.began(0, 1), 10);
    }

    private static void fourOnEightMiles() {
        RegretLine x = Check.on("r444;--------,p101,p201,p301,w409");
        x.reading(3, 8, 0);
        Check.due("40 less 64", x.began(3, 0), 60);
        x.reading(3, 4, 1);
        // Less 32 it is 20 .. 39, less 64 below 20: 52 and more.
        Check.due("how many", x.began(3, 0), 8);
        Check.due("the least", x.began(3, 1), 52);
        x.back(1);
        Check.due("kinds of the last one", x.kinds(3), 7);
        Check.due("fadings of the last one", x.fadings(3), 1023 - 7 - 8);
    }

    private static void kinds() {
        RegretLine x = Check.on("r444;u,p325");
        Check.due("any", x.kinds(0), 7);
        x.reading(0, 1, 1);
        Check.due("no honeymooner", x.kinds(0), 3);
        x.back(1);
        x.reading(0, 1, 2);
        Check.due("a honeymooner", x.kinds(0), 4);
        x.reading(0, 0, 2);
        Check.due("none", x.kinds(0), 0);
        RegretLine y = Check.on("r444;-,h211,p000");
        y.reading(0, 1, 1);
        Check.due("by 20 or by 21", y.kinds(0), 7);
        y.limits(21, 40);
        Check.due("by 21 alone", y.kinds(0), 2);
        Check.due("of the other one", y.kinds(1), 0);
        Check.due("kinds(2)", y.kinds(2), UNKNOWN);
        Check.due("kinds(-1)", y.kinds(-1), UNKNOWN);
    }

    private static void fadings() {
        RegretLine x = Check.on("r444;-,p225,w225");
        Check.due("any", x.fadings(0), 1023);
        x.reading(0, 1, 0);
        Check.due("3 .. 9", x.fadings(0), 1016);
        Check.due("of the other one, it isn't so", x.fadings(1), 1023);
        x.back(1);
        x.reading(1, 1, 0);
        Check.due("a widow's: 4 .. 9", x.fadings(1), 1008);
        x.back(1);
        x.reading(1, 1, 1);
        Check.due("a widow's: 0 .. 3", x.fadings(1), 15);
        Check.due("none", x.fadings(0), 0);
        Check.due("fadings(2)", x.fadings(2), UNKNOWN);
        Check.due("fadings(-1)", x.fadings(-1), UNKNOWN);
    }

    private static void guessesLeaveTheLine() {
        RegretLine x = Check.on("r444;-u,p225,w225");
        x.reading(0, 1, 0);
        x.began(0, 0);
        x.kinds(0);
        x.fadings(0);
        x.odds(0, 0, 0);
        x.help(0, 1, 0);
        Check.due("kind", x.ofPassenger(0, 0), 0);
        Check.due("regret at first", x.ofPassenger(0, 1), 22);
        Check.due("fades", x.ofPassenger(0, 2), 5);
        Check.due("regret", x.regret(0, 2), 22);
        Check.due("mile 0", x.dig(0, false), 0);
        Check.due("mile 1", x.dig(1, true), 0);
        Check.due("nobody talks", x.talk(0, NONE, NONE), NONE);
    }

    private static void share(RegretLine x, int p, int c, long upper, long lower) {
        Check.due("odds(" + p + ", " + c + ", 0)", x.odds(p, c, 0), upper);
        Check.due("odds(" + p + ", " + c + ", 1)", x.odds(p, c, 1), lower);
    }

    private static void odds() {
        RegretLine x = Check.on("r444;--,p385,h149,w590");
        // 28 38 38 48; 0 15 16 34 in some order; 59 64 64 69.
        share(x, 0, 0, 0, 1);
        share(x, 0, 1, 3, 4);
        share(x, 0, 2, 1, 4);
        share(x, 1, 0, 3, 4);
        share(x, 1, 1, 1, 4);
        share(x, 2, 2, 1, 1);
        x.limits(39, 39);
        share(x, 0, 0, 3, 4);
        share(x, 0, 1, 0, 1);
        share(x, 1, 0, 1, 1);
        x.limits(29, 48);
        share(x, 0, 0, 1, 4);
        share(x, 0, 1, 1, 2);
        Check.due("odds(3, 0, 0)", x.odds(3, 0, 0), LOST);
        Check.due("odds(-1, 0, 0)", x.odds(-1, 0, 0), LOST);
        Check.due("odds(0, 3, 0)", x.odds(0, 3, 0), LOST);
        Check.due("odds(0, -1, 0)", x.odds(0, -1, 0), LOST);
        Check.due("odds(0, 0, 2)", x.odds(0, 0, 2), LOST);
        Check.due("odds(0, 0, -1)", x.odds(0, 0, -1), LOST);
        RegretLine eight = Check.on("r444;--------,p000");
        eight.limits(40, 41);
        share(eight, 0, 1, 1, 256);
        share(eight, 0, 0, 255, 256);
    }

    private static void oddsOfWhatIsThere() {
        RegretLine x = Check.on("r444;-u,p385,p000");
        share(x, 0, 1, 3, 4);
        x.dig(0, true);
        share(x, 0, 1, 3, 4);
        x.reading(0, 2, 2);
        share(x, 0, 1, 3, 4);
        x.put(0, 0, 0);
        x.reading(0, 0, 0);
        share(x, 0, 2, 1, 4);
        x.talk(1, 0, 1);
        // Half of 28 and 0, 43 and 10 at most: 14 21 21 29 or so.
        share(x, 0, 0, 1, 4);
        share(x, 1, 0, 1, 4);
        share(x, 1, 1, 3, 4);
        x.limits(20, 29);
        share(x, 1, 2, 1, 4);
        Check.due("the line stays", x.regret(0, 2), 29);
    }
}
