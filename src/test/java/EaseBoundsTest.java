/** Promises 11 to 13: bounds of ease, stuck and help. */
public final class EaseBoundsTest {
    private static final int UNKNOWN = RegretLine.UNKNOWN, OUTSIDE = RegretLine.OUTSIDE;
    private static final int STATE = RegretLine.STATE, NONE = RegretLine.NONE;
    private static final int MIN = Integer.MIN_VALUE, MAX = Integer.MAX_VALUE;

    public static void main(String[] args) {
        easeRefused();
        easeBehindTheRow();
        noEase();
        easeByTheLastSeat();
        easeOfTheMost();
        firstAsARow();
        changesBetweenAllClasses();
        changesOfEachOfFour();
        easeAfterEachChange();
        easeIsASeatingThatCanBe();
        stuckRefused();
        stuckInEachMile();
        stuckByEachClass();
        stuckWhateverIsAhead();
        helpRefused();
        helpAtItsEnds();
        helpOfThoseWhoTalk();
        helpChangesNothing();
        Check.finish("EaseBoundsTest");
    }

    private static void easeRefused() {
        for (int k : new int[] {-2, -3, NONE, MIN}) {
            Twin.refused("ease(" + k + ")", Made::two, x -> x.ease(k), UNKNOWN);
            Twin.refused("ease(" + k + ") without a line", Made::withoutLine, x -> x.ease(k), UNKNOWN);
        }
        for (int k : new int[] {-1, 0, 1, MAX}) {
            Twin.refused("no line: ease(" + k + ")", Made::withoutLine, x -> x.ease(k), STATE);
        }
    }

    private static void easeBehindTheRow() {
        for (int k : new int[] {4, 5, 32, MAX}) {
            Twin.refused("ease(" + k + ") of a row of 4", Made::two, x -> x.ease(k), NONE);
        }
        Check.due("the last of 4", Made.two().ease(3), 2);
        Check.due("the last of 32", Made.most().ease(31), 2);
        Twin.refused("ease(32) of a row of 32", Made::most, x -> x.ease(32), NONE);
        Check.due("the only one", Made.least().ease(0), 0);
        Twin.refused("ease(1) of a row of 1", Made::least, x -> x.ease(1), NONE);
        RegretLine x = Made.most();
        Check.due("the first of 32", x.ease(0), 1);
        Check.take(x, "r444;--,p000");
        Check.rowOfEase(x, "a shorter row now", 0, 0, 0);
    }

    private static void noEase() {
        RegretLine x = Check.on("r440;--,p500");
        for (int k : new int[] {-1, 0, 1, 2, MAX}) {
            Check.due("none: ease(" + k + ")", x.ease(k), NONE);
        }
        Check.due("none: ease(-2)", x.ease(-2), UNKNOWN);
        x.seats(2, 1);
        Check.rowOfEase(x, "a seat", 0, 2, 2);
        x.seats(2, 0);
        Check.due("none again", x.ease(-1), NONE);
        Check.due("none of its row", x.ease(0), NONE);
        x.limits(50, 51);
        Check.rowOfEase(x, "other limits", 0, 1, 1);
        RegretLine none = Check.on("r000;-,p000");
        Check.due("no seats at all", none.ease(-1), NONE);
    }

    private static void easeByTheLastSeat() {
        RegretLine x = Check.on("r400;-,p000,p000,p000,p000");
        Check.rowOfEase(x, "four on four seats", 0, 0, 0, 0, 0);
        x.seats(0, 3);
        Check.due("one is left over", x.ease(-1), NONE);
        x.seats(1, 1);
        Check.rowOfEase(x, "one seat lower", 1, 0, 0, 0, 1);
        x.seats(1, 0);
        x.seats(2, 1);
        Check.rowOfEase(x, "two lower", 2, 0, 0, 0, 2);
        x.seats(0, 0);
        x.seats(2, 4);
        Check.rowOfEase(x, "all of them", 8, 2, 2, 2, 2);
    }

    private static void easeOfTheMost() {
        RegretLine x = Check.on("r004;--------,p000,p000,p000,p000");
        int[] row = new int[32];
        java.util.Arrays.fill(row, 2);
        Check.rowOfEase(x, "the most trouble", 64, row);
        x.seats(0, 4);
        Check.rowOfEase(x, "no trouble", 0, new int[32]);
        x.limits(0, 0);
        Check.rowOfEase(x, "no trouble at the other end", 0, row);
    }

    private static void firstAsARow() {
        Check.rowOfEase(Check.on("r110;-,p000,p000"), "the first one sits better", 1, 0, 1);
        Check.rowOfEase(Check.on("r110;--,p000,p000"), "and stays there", 2, 0, 1, 0, 1);
        Check.rowOfEase(Check.on("r444;u-,p190"), "low at first or a change: a change", 1, 0, 1);
        Check.rowOfEase(Check.on("r444;--,p209"), "low behind or a change: a change", 1, 1, 0);
        Check.rowOfEase(Check.on("r444;u--,p199"), "up for one mile: two changes", 2, 0, 1, 0);
        Check.rowOfEase(Check.on("r444;-u-,p205"), "down for one mile: two changes or low", 1, 1, 1, 1);
        Check.rowOfEase(Check.on("r444;u-,h350"), "one change for one class", 1, 1, 2);
        Check.rowOfEase(Check.on("r222;-,p000,p000,p000"), "two and one", 1, 0, 0, 1);
    }

    /** A change is one, however far: low by as much or more is left for it. */
    private static void changesBetweenAllClasses() {
        for (int far = 1; far < 3; far++) {
            RegretLine down = Check.on("r444;---,p409,p409");
            down.limits(far == 1 ? 20 : 40, 40);
            Check.rowOfEase(down, "down by " + far, 2, 2, 2, 2 - far, 2 - far, 2 - far, 2 - far);
            RegretLine up = Check.on("r444;uuu,p190,p190");
            up.limits(20, far == 1 ? 40 : 20);
            Check.rowOfEase(up, "up by " + far, 2, 0, 0, far, far, far, far);
        }
        Check.rowOfEase(Check.on("r444;--,p405,p205"), "from 2 to 1, from 1 to 0", 2, 2, 1, 1, 0);
    }

    /** One of four is low for a mile, as two changes would be dearer: whichever of them it is. */
    private static void changesOfEachOfFour() {
        for (int p = 0; p < 4; p++) {
            StringBuilder text = new StringBuilder("r444;-u-");
            int[] row = new int[12];
            for (int q = 0; q < 4; q++) {
                text.append(q == p ? ",p205" : ",p000");
                for (int mile = 0; mile < 3; mile++) {
                    row[4 * mile + q] = q == p ? 1 : 0;
                }
            }
            Check.rowOfEase(Check.on(text.toString()), "low for a mile: " + p, 1, row);
        }
    }

    private static void easeAfterEachChange() {
        RegretLine x = Check.on("r444;--,p190,p590");
        Check.rowOfEase(x, "as told", 0, 0, 2, 0, 2);
        x.dig(0, true);
        Check.rowOfEase(x, "a tunnel", 1, 0, 2, 1, 2);
        x.dig(0, false);
        x.talk(0, 0, 1);
        Check.rowOfEase(x, "they talk", 2, 0, 2, 1, 1);
        x.talk(0, NONE, NONE);
        Check.rowOfEase(x, "nobody talks", 0, 0, 2, 0, 2);
        x.limits(19, 60);
        Check.rowOfEase(x, "other limits", 0, 1, 1, 1, 1);
        x.seats(1, 1);
        Check.rowOfEase(x, "a seat for one", 2, 1, 2, 1, 2);
    }

    private static void easeIsASeatingThatCanBe() {
        String[] texts = {"r211;-u-u-u,p195,w395,h209", "r112;uu--uu--,p189,w387,h150,p003", "r022;u-u-,h199,w211,p009,p259"};
        for (String text : texts) {
            RegretLine x = Check.on(text);
            int n = x.many(0) * x.many(1);
            Check.due(text + " has an ease", x.ease(-1) >= 0);
            x.sheet(1, 0, n);
            for (int k = 0; k < n; k++) {
                x.put(1, k, x.ease(k));
            }
            Check.due(text + ": its trouble", x.seating(1, 0, 0, n, 0), x.ease(-1));
            Check.due(text + ": not wrong", x.seating(1, 0, 0, n, 1), NONE);
            Check.due(text + ": nobody above", x.seating(1, 0, 0, n, 3), 0);
        }
    }

    private static void stuckRefused() {
        Twin.refused("no line: stuck", Made::withoutLine, x -> x.stuck(), STATE);
        Twin.refused("not stuck", Made::two, x -> x.stuck(), NONE);
        Twin.refused("not stuck, the most", Made::most, x -> x.stuck(), NONE);
        Twin.refused("not stuck, the least", Made::least, x -> x.stuck(), NONE);
    }

    private static void stuckInEachMile() {
        for (int mile = 0; mile < 8; mile++) {
            RegretLine x = Check.on("r440;--------,p100");
            x.limits(0, 15);
            if (mile > 0) {
                x.dig(mile - 1, true);
            } else {
                x.limits(0, 10);
            }
            Check.due("stuck in mile " + mile, x.stuck(), mile);
            Check.due("no ease", x.ease(-1), NONE);
            x.seats(2, 1);
            Check.due("not with a seat", x.stuck(), NONE);
            Check.due("an ease", x.ease(-1), mile > 0 ? 1 : 0);
        }
        RegretLine last = Check.on("r440;--------,p100");
        last.limits(0, 15);
        last.dig(7, true);
        Check.due("what is due behind the last mile does not matter", last.stuck(), NONE);
        Check.due("due there", last.due(0, 8), 2);
    }

    private static void stuckByEachClass() {
        RegretLine x = Check.on("r012;-,p000,p200,p400,p400");
        Check.due("class 0 full: three for the rest", x.stuck(), 0);
        x.seats(0, 1);
        Check.due("a seat in class 0", x.stuck(), NONE);
        x.seats(2, 1);
        Check.due("two for the last class", x.stuck(), 0);
        x.seats(2, 3);
        x.seats(1, 0);
        Check.due("class 1 has none, class 2 one more", x.stuck(), NONE);
        x.seats(0, 0);
        Check.due("seats above don't help", x.stuck(), 0);
        x.seats(2, 4);
        Check.due("all in class 2", x.stuck(), NONE);
        x.seats(0, 4);
        x.seats(1, 4);
        x.seats(2, 1);
        Check.due("seats below are what counts", x.stuck(), 0);
    }

    /** Also MILES behind one that can't be are looked at: the first is told. */
    private static void stuckWhateverIsAhead() {
        RegretLine x = Check.on("r440;---,p500");
        Check.due("in all miles", x.stuck(), 0);
        x = Check.on("r440;-u-u,p399");
        // 39 30 35 26
        Check.due("in none", x.stuck(), NONE);
        x.limits(20, 35);
        Check.due("in miles 0 and 2", x.stuck(), 0);
        x.dig(0, true);
        Check.due("in miles 0, 1, 2", x.stuck(), 0);
        x.limits(20, 44);
        Check.due("in miles 1 and 2", x.stuck(), 1);
        x.limits(20, 45);
        Check.due("in mile 2", x.stuck(), 2);
        x.limits(20, 50);
        Check.due("in none again", x.stuck(), NONE);
    }

    private static void helpRefused() {
        for (int p : new int[] {-1, 2, 3, NONE, MIN, MAX}) {
            Twin.refused("help of " + p + " and 0", Made::two, x -> x.help(p, 0, 0), UNKNOWN);
            Twin.refused("help of 0 and " + p, Made::two, x -> x.help(0, p, 0), UNKNOWN);
            Twin.refused("help of " + p + " twice", Made::two, x -> x.help(p, p, 0), UNKNOWN);
            Twin.refused("help of " + p + " nowhere", Made::two, x -> x.help(p, 0, 2), UNKNOWN);
        }
        for (int mile : new int[] {-1, 2, 3, 8, MIN, MAX}) {
            Twin.refused("help in " + mile, Made::two, x -> x.help(0, 1, mile), OUTSIDE);
            Twin.refused("themselves in " + mile, Made::two, x -> x.help(1, 1, mile), UNKNOWN);
        }
        Twin.refused("one with themselves", Made::two, x -> x.help(0, 0, 0), UNKNOWN);
        Twin.refused("the other one with themselves", Made::two, x -> x.help(1, 1, 1), UNKNOWN);
        Twin.refused("a fifth of four", Made::most, x -> x.help(3, 4, 7), UNKNOWN);
        Twin.refused("in a ninth of eight", Made::most, x -> x.help(3, 2, 8), OUTSIDE);
        Twin.refused("the only one", Made::least, x -> x.help(0, 0, 0), UNKNOWN);
        Twin.refused("the only one with another", Made::least, x -> x.help(0, 1, 0), UNKNOWN);
        Twin.refused("no line: help", Made::withoutLine, x -> x.help(0, 1, 0), UNKNOWN);
    }

    private static void helpAtItsEnds() {
        RegretLine x = Check.on("r444;--------,p000,p000,p590,p570");
        x.limits(59, 59);
        Check.due("the most: 2 in seven miles", x.help(2, 3, 0), 1014);
        Check.due("either way", x.help(3, 2, 0), 1014);
        Check.due("in the mile ahead of the last", x.help(2, 3, 6), 1002);
        Check.due("in the last one nothing", x.help(2, 3, 7), 1000);
        x.limits(29, 29);
        Check.due("the least: both are due low", x.help(0, 2, 0), 986);
        Check.due("in the mile ahead of the last", x.help(2, 0, 6), 998);
        Check.due("those who are alike", x.help(0, 1, 0), 1000);
        RegretLine one = Check.on("r444;-,p000,p590");
        Check.due("of one mile", one.help(0, 1, 0), 1000);
    }

    /** In place of whoever talks in it: they don't talk then, and so have what they had alone. */
    private static void helpOfThoseWhoTalk() {
        RegretLine x = Check.on("r444;--,p000,p400,p590");
        x.talk(0, 1, 0);
        Check.due("they do", x.help(0, 1, 0), 1000);
        Check.due("the other way round", x.help(1, 0, 0), 1000);
        // Ahead of mile 1: 20 20 59, due 1 1 2; then 29 40 29: 1 and 1; or 0 49 49: 2 and 2.
        Check.due("0 with 2", x.help(0, 2, 0), 1001);
        Check.due("1 with 2", x.help(1, 2, 0), 999);
        Check.due("a mile later", x.help(1, 2, 1), 1000);
        x.talk(0, NONE, NONE);
        Check.due("if nobody talks", x.help(0, 1, 0), 1000);
        x.limits(21, 40);
        Check.due("both are due in 0 then", x.help(0, 1, 0), 1002);
    }

    private static void helpChangesNothing() {
        Twin.refused("help in the mile of a talk", Made::two, x -> x.help(0, 1, 1), 1000);
        Twin.refused("help in the first mile", Made::two, x -> x.help(1, 0, 0), 999);
        // 58 55 60 .. and 12 3 13 ..: 16 and 0; then 58 29 34 31 36 33 38 35 and 12 29 39 30 40 31 41 32: 9 and 9.
        Twin.refused("help of the last two", Made::most, x -> x.help(3, 2, 0), 998);
    }
}
