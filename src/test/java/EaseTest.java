/** Promises 11 to 13: ease, stuck, help. */
public final class EaseTest {
    private static final int UNKNOWN = RegretLine.UNKNOWN, OUTSIDE = RegretLine.OUTSIDE;
    private static final int NONE = RegretLine.NONE;

    public static void main(String[] args) {
        firstOfSeveral();
        seatsThatLack();
        easeFollowsChanges();
        stuck();
        wrongPlaces();
        help();
        helpInPlaceOfOthers();
        Check.finish("EaseTest");
    }

    private static void firstOfSeveral() {
        Check.rowOfEase(Check.on("r444;u-,p380"), "a change or low, then up", 1, 1, 2);
        Check.rowOfEase(Check.on("r444;--,p401"), "a change or low, then down", 1, 2, 1);
        Check.rowOfEase(Check.on("r444;u--,p399"), "up and down", 2, 1, 2, 1);
        Check.rowOfEase(Check.on("r444;---,p401"), "low for two miles is dearer", 1, 2, 1, 1);
        Check.rowOfEase(Check.on("r444;uuuu,p190"), "from 0 to 1", 1, 0, 1, 1, 1);
    }

    private static void seatsThatLack() {
        Check.rowOfEase(Check.on("r102;--,p300,p500"), "no seats in class 1", 2, 2, 2, 2, 2);
        Check.rowOfEase(Check.on("r144;--,p000,p000"), "one seat for two", 2, 0, 1, 0, 1);
        Check.rowOfEase(Check.on("r114;-,p000,p000,p000"), "one and one seat for three", 3, 0, 1, 2);
        Check.rowOfEase(Check.on("r112;-,p000,p000,p000,p500"), "one is due below", 3, 0, 1, 2, 2);
        Check.rowOfEase(Check.on("r013;--,p201,p000"), "one seat that either may have", 5, 1, 2, 1, 2);
        Check.rowOfEase(Check.on("r004;-,p000,w000,h000,p000"), "all at the end", 8, 2, 2, 2, 2);
    }

    private static void easeFollowsChanges() {
        RegretLine x = Check.on("r444;--,p300,p100");
        Check.rowOfEase(x, "at first", 0, 1, 0, 1, 0);
        x.limits(40, 50);
        Check.rowOfEase(x, "other limits", 0, 0, 0, 0, 0);
        x.seats(0, 1);
        Check.rowOfEase(x, "fewer seats", 2, 0, 1, 0, 1);
        x.seats(0, 4);
        x.dig(0, true);
        x.limits(20, 35);
        Check.rowOfEase(x, "a tunnel", 1, 1, 0, 2, 0);
        x.talk(0, 0, 1);
        Check.rowOfEase(x, "they talk", 1, 1, 0, 1, 1);
        Check.take(x, "r444;-,p500");
        Check.rowOfEase(x, "another line", 0, 2);
    }

    private static void stuck() {
        RegretLine x = Check.on("r440;uu--,p319");
        // 31 36 41 32: due 2 in mile 2 alone.
        Check.due("stuck by a class without seats", x.stuck(), 2);
        Check.due("no ease then", x.ease(-1), NONE);
        Check.due("no row then", x.ease(0), NONE);
        x.limits(20, 42);
        Check.due("not stuck", x.stuck(), NONE);
        Check.rowOfEase(x, "not stuck", 0, 1, 1, 1, 1);
        x.limits(20, 36);
        Check.due("stuck a mile ahead", x.stuck(), 1);
        x.seats(2, 1);
        Check.due("a seat more", x.stuck(), NONE);
        RegretLine y = Check.on("r111;--,p000,p000,p000,p000");
        Check.due("too few seats for all", y.stuck(), 0);
        y.seats(1, 2);
        Check.due("enough", y.stuck(), NONE);
        RegretLine z = Check.on("r401;-u,p500,p390,p000");
        Check.due("two for one seat from the second mile on", z.stuck(), 0);
        z.seats(1, 1);
        Check.due("the second mile is open", z.stuck(), NONE);
        z.dig(0, true);
        Check.due("two due in a class with one seat", z.stuck(), 1);
    }

    private static void wrongPlaces() {
        RegretLine x = Check.on("r444;--,p300,p100");
        Check.due("ease(-2)", x.ease(-2), UNKNOWN);
        Check.due("ease(MIN)", x.ease(Integer.MIN_VALUE), UNKNOWN);
        Check.due("ease(3)", x.ease(3), 0);
        Check.due("ease(4)", x.ease(4), NONE);
        Check.due("ease(MAX)", x.ease(Integer.MAX_VALUE), NONE);
    }

    private static void help() {
        RegretLine x = Check.on("r444;---,p100,p500");
        // 10 and 50 are due 0 and 2; 30 and 30 both 1.
        Check.due("help at first", x.help(0, 1, 0), 1000);
        x.limits(31, 40);
        Check.due("both 0 from the second mile on", x.help(0, 1, 0), 1004);
        Check.due("from the third on", x.help(1, 0, 1), 1002);
        Check.due("behind the last nothing counts", x.help(0, 1, 2), 1000);
        x.limits(20, 30);
        Check.due("both 2 then", x.help(0, 1, 0), 996);
        Check.due("help(0, 1, 3)", x.help(0, 1, 3), OUTSIDE);
        Check.due("help(0, 1, -1)", x.help(0, 1, -1), OUTSIDE);
        Check.due("help(0, 2, 9)", x.help(0, 2, 9), UNKNOWN);
        Check.due("help(-1, 0, 0)", x.help(-1, 0, 0), UNKNOWN);
        Check.due("help(NONE, NONE, 0)", x.help(NONE, NONE, 0), UNKNOWN);
        Check.due("help(1, 1, 0)", x.help(1, 1, 0), UNKNOWN);
        Check.due("nobody talked", x.regret(0, 3), 10);
    }

    private static void helpInPlaceOfOthers() {
        RegretLine x = Check.on("r444;--,p000,p500,p500");
        x.limits(20, 26);
        x.talk(0, 0, 1);
        // Ahead of the second mile 25 25 50: due 1 1 2.
        Check.due("they talk already", x.help(0, 1, 0), 1000);
        Check.due("one of them is left alone", x.help(0, 2, 0), 1001);
        Check.due("without the first one", x.help(1, 2, 0), 999);
        Check.due("who talks stays", x.talk(0, NONE, NONE), 1);
    }
}
