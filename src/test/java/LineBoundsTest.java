/** Promises 1, 3 to 9 and 30: bounds of the line, what is refused, and that it changes nothing then. */
public final class LineBoundsTest {
    private static final int UNKNOWN = RegretLine.UNKNOWN, OUTSIDE = RegretLine.OUTSIDE;
    private static final int STATE = RegretLine.STATE, NONE = RegretLine.NONE;
    private static final int MIN = Integer.MIN_VALUE, MAX = Integer.MAX_VALUE;

    public static void main(String[] args) {
        newObject();
        noLineYet();
        ofPassenger();
        seats();
        limits();
        dig();
        talk();
        talkOfNone();
        talkOfTwo();
        regretAndDue();
        noRegretBelowNothing();
        noRegretAboveTheMost();
        halvesAreCut();
        dueAtTheLimits();
        many();
        Check.finish("LineBoundsTest");
    }

    private static void newObject() {
        RegretLine x = new RegretLine();
        for (int what = 0; what < 3; what++) {
            Check.due("new: many(" + what + ")", x.many(what), 0);
        }
        Check.due("new: fault", x.fault(), 0);
        Check.due("new: trace", x.trace(), 0);
        for (int k = 0; k < 4; k++) {
            for (int lane = 0; lane < 3; lane++) {
                Check.due("new: a cell of nothing", x.cell(k, 0, lane), RegretLine.LOST);
                Check.due("new: its fault", x.fault(), 1);
            }
            Check.due("new: copied to itself", x.copy(k, 0, k, 0, 0), -11);
            Check.due("new: lose", x.lose(k), 0);
        }
    }

    private static void noLineYet() {
        Twin.refused("no line: ofPassenger", Made::withoutLine, x -> x.ofPassenger(0, 0), UNKNOWN);
        Twin.refused("no line: seats", Made::withoutLine, x -> x.seats(0, 0), STATE);
        Twin.refused("no line: seats, OUTSIDE", Made::withoutLine, x -> x.seats(3, 5), STATE);
        Twin.refused("no line: limits", Made::withoutLine, x -> x.limits(20, 40), STATE);
        Twin.refused("no line: limits, OUTSIDE", Made::withoutLine, x -> x.limits(1, 0), STATE);
        Twin.refused("no line: dig", Made::withoutLine, x -> x.dig(0, true), STATE);
        Twin.refused("no line: dig open", Made::withoutLine, x -> x.dig(0, false), STATE);
        Twin.refused("no line: dig, OUTSIDE", Made::withoutLine, x -> x.dig(-1, true), STATE);
        Twin.refused("no line: talk", Made::withoutLine, x -> x.talk(0, 0, 1), STATE);
        Twin.refused("no line: talk of none", Made::withoutLine, x -> x.talk(0, NONE, NONE), STATE);
        Twin.refused("no line: talk, OUTSIDE", Made::withoutLine, x -> x.talk(-1, 0, 0), STATE);
        Twin.refused("no line: regret", Made::withoutLine, x -> x.regret(0, 0), UNKNOWN);
        Twin.refused("no line: regret, OUTSIDE", Made::withoutLine, x -> x.regret(0, 1), UNKNOWN);
        Twin.refused("no line: due", Made::withoutLine, x -> x.due(0, 0), UNKNOWN);
    }

    private static void ofPassenger() {
        for (int p : new int[] {-1, 2, 3, MIN, MAX}) {
            Twin.refused("ofPassenger " + p, Made::two, x -> x.ofPassenger(p, 0), UNKNOWN);
            Twin.refused("and no such what", Made::two, x -> x.ofPassenger(p, 3), UNKNOWN);
        }
        for (int what : new int[] {-1, 3, MIN, MAX}) {
            Twin.refused("what " + what, Made::two, x -> x.ofPassenger(1, what), OUTSIDE);
        }
        Check.due("the last of two", Made.two().ofPassenger(1, 0), 2);
        Check.due("the last of four", Made.most().ofPassenger(3, 2), 3);
        Twin.refused("a fifth of four", Made::most, x -> x.ofPassenger(4, 0), UNKNOWN);
        Check.due("the only one", Made.least().ofPassenger(0, 2), 0);
        Twin.refused("a second of one", Made::least, x -> x.ofPassenger(1, 0), UNKNOWN);
    }

    private static void seats() {
        for (int place : new int[] {-1, 3, MIN, MAX}) {
            Twin.refused("seats of class " + place, Made::two, x -> x.seats(place, 2), OUTSIDE);
        }
        for (int v : new int[] {-1, 5, MIN, MAX}) {
            for (int place = 0; place < 3; place++) {
                int c = place;
                Twin.refused(v + " seats of class " + c, Made::two, x -> x.seats(c, v), OUTSIDE);
            }
        }
        for (int place = 0; place < 3; place++) {
            RegretLine x = Check.on("r000;-,p000");
            Check.due("the most seats of " + place, x.seats(place, 4), 0);
            for (int other = 0; other < 3; other++) {
                Check.due("class " + other + " has", x.seats(other, 0), other == place ? 4 : 0);
            }
            Check.due("no seats of " + place, x.seats(place, 0), 0);
        }
    }

    private static void limits() {
        int[][] wrong = {{-1, 0}, {-1, -1}, {0, 100}, {99, 100}, {100, 100}, {100, 99}, {1, 0}, {99, 98}, {0, -1},
            {MIN, MAX}, {MAX, MAX}, {MIN, MIN}, {MIN, 40}, {20, MAX}};
        for (int[] w : wrong) {
            Twin.refused("limits " + w[0] + ", " + w[1], Made::two, x -> x.limits(w[0], w[1]), OUTSIDE);
        }
        RegretLine x = Made.least();
        Check.due("both least", x.limits(0, 0), 2040);
        Check.due("both most", x.limits(99, 99), 0);
        Check.due("least and most", x.limits(0, 99), 9999);
        Check.due("one apart", x.limits(98, 99), 99);
        Check.due("alike", x.limits(98, 98), 9899);
        Check.due("as they were", x.limits(20, 40), 9898);
    }

    private static void dig() {
        for (int mile : new int[] {-1, 2, 3, 8, MIN, MAX}) {
            Twin.refused("dig " + mile, Made::two, x -> x.dig(mile, true), OUTSIDE);
            Twin.refused("open " + mile, Made::two, x -> x.dig(mile, false), OUTSIDE);
        }
        Twin.refused("dig the ninth", Made::most, x -> x.dig(8, true), OUTSIDE);
        Twin.refused("it was so: a tunnel", Made::most, x -> x.dig(7, true), 0);
        Twin.refused("it was so: open", Made::most, x -> x.dig(0, false), 0);
        Twin.refused("dig the second of one", Made::least, x -> x.dig(1, true), OUTSIDE);
        RegretLine x = Made.most();
        Check.due("open the eighth", x.dig(7, false), 1);
        Check.due("dig the eighth", x.dig(7, true), 1);
        Check.due("dig the first", x.dig(0, true), 1);
        Check.due("dig the only one", Made.least().dig(0, true), 1);
    }

    private static void talk() {
        for (int mile : new int[] {-1, 2, 3, 8, MIN, MAX}) {
            Twin.refused("talk in " + mile, Made::two, x -> x.talk(mile, 0, 1), OUTSIDE);
            Twin.refused("nobody in " + mile, Made::two, x -> x.talk(mile, NONE, NONE), OUTSIDE);
            Twin.refused("unknown ones in " + mile, Made::two, x -> x.talk(mile, 2, 2), OUTSIDE);
        }
        for (int p : new int[] {-1, 2, 3, -8, -10, MIN, MAX}) {
            Twin.refused(p + " talks with 0", Made::two, x -> x.talk(1, p, 0), UNKNOWN);
            Twin.refused("0 talks with " + p, Made::two, x -> x.talk(1, 0, p), UNKNOWN);
            Twin.refused(p + " with themselves", Made::two, x -> x.talk(1, p, p), UNKNOWN);
            Twin.refused(p + " with NONE", Made::two, x -> x.talk(1, p, NONE), UNKNOWN);
        }
        Twin.refused("a fifth of four", Made::most, x -> x.talk(7, 4, 0), UNKNOWN);
        Twin.refused("in a ninth of eight", Made::most, x -> x.talk(8, 0, 1), OUTSIDE);
    }

    private static void talkOfNone() {
        Twin.refused("NONE with 0", Made::two, x -> x.talk(1, NONE, 0), UNKNOWN);
        Twin.refused("0 with NONE", Made::two, x -> x.talk(1, 0, NONE), UNKNOWN);
        Twin.refused("0 with themselves", Made::two, x -> x.talk(1, 0, 0), UNKNOWN);
        Twin.refused("1 with themselves", Made::two, x -> x.talk(1, 1, 1), UNKNOWN);
        Twin.refused("the only one with themselves", Made::least, x -> x.talk(0, 0, 0), UNKNOWN);
        Twin.refused("the only one with another", Made::least, x -> x.talk(0, 0, 1), UNKNOWN);
        RegretLine x = Made.least();
        Check.due("nobody did", x.talk(0, NONE, NONE), NONE);
        Check.due("nobody did still", x.talk(0, NONE, NONE), NONE);
    }

    private static void talkOfTwo() {
        RegretLine x = Made.most();
        Check.due("who talked in the eighth", x.talk(7, 2, 3), 30);
        Check.due("the last two", x.talk(7, 3, 2), 23);
        Check.due("the other way round", x.talk(7, 0, 1), 32);
        Check.due("the first two", x.talk(7, 1, 0), 1);
        Check.due("nobody then", x.talk(7, NONE, NONE), 10);
        Check.due("the first mile", x.talk(0, 3, 0), NONE);
        Check.due("as regrets behind it tell", x.regret(3, 1), 44);
        Check.due("of both", x.regret(0, 1), 44);
        Check.due("the mile of others stays", x.talk(1, NONE, NONE), NONE);
    }

    private static void regretAndDue() {
        for (int p : new int[] {-1, 2, 3, MIN, MAX}) {
            Twin.refused("regret of " + p, Made::two, x -> x.regret(p, 0), UNKNOWN);
            Twin.refused("due of " + p, Made::two, x -> x.due(p, 0), UNKNOWN);
            Twin.refused("regret of " + p + ", no mile", Made::two, x -> x.regret(p, 3), UNKNOWN);
            Twin.refused("due of " + p + ", no mile", Made::two, x -> x.due(p, -1), UNKNOWN);
        }
        for (int mile : new int[] {-1, 3, 8, 9, MIN, MAX}) {
            Twin.refused("regret ahead of " + mile, Made::two, x -> x.regret(1, mile), OUTSIDE);
            Twin.refused("due in " + mile, Made::two, x -> x.due(1, mile), OUTSIDE);
        }
        Check.due("regret behind the last of two", Made.two().regret(1, 2), 55);
        Check.due("due behind the last of two", Made.two().due(1, 2), 2);
        Check.due("regret behind the last of eight", Made.most().regret(3, 8), 58);
        Check.due("due behind the last of eight", Made.most().due(3, 8), 2);
        Twin.refused("regret ahead of a tenth", Made::most, x -> x.regret(3, 9), OUTSIDE);
        Twin.refused("due in a tenth", Made::most, x -> x.due(3, 9), OUTSIDE);
        Check.due("regret behind the only mile", Made.least().regret(0, 1), 0);
        Twin.refused("regret further on", Made::least, x -> x.regret(0, 2), OUTSIDE);
        Twin.refused("due further on", Made::least, x -> x.due(0, 2), OUTSIDE);
    }

    private static void behind(String text, int... regrets) {
        RegretLine x = Check.on(text);
        for (int p = 0; p < regrets.length; p++) {
            Check.due(text + ": regret of " + p, x.regret(p, x.many(1)), regrets[p]);
        }
    }

    private static void noRegretBelowNothing() {
        behind("r444;-,p099,p089,p109,p000", 0, 0, 1, 0);
        behind("r444;-,h099,h089,h109,h009", 0, 0, 1, 0);
        behind("r444;-,w089,w079,w099,w009", 0, 0, 1, 0);
        behind("r444;-,w200,w201,w202,w009", 20, 20, 19, 0);
        behind("r444;--------,p599,p009,w009,h009", 0, 0, 0, 0);
        behind("r444;-u,p059,w059,h059", 5, 5, 10);
    }

    private static void noRegretAboveTheMost() {
        behind("r444;uuuuuuuu,p599,w599,h599,h190", 99, 99, 99, 99);
        behind("r444;uuuuuuuu,p580,w580,h180,p590", 98, 98, 98, 99);
        behind("r444;uuuu,h580,h590", 98, 99);
        behind("r444;uuuuu,h490,h480,h500", 99, 98, 99);
        behind("r444;uuuuu-,h599,h590", 90, 99);
        RegretLine x = Check.on("r444;uuuuuuuu,h599,h509");
        x.talk(7, 0, 1);
        Check.due("half of twice the most", x.regret(0, 8), 99);
        x.talk(4, 0, 1);
        Check.due("cut to the most ahead of talking", x.regret(1, 5), 99);
    }

    private static void halvesAreCut() {
        RegretLine x = Check.on("r444;--,p010,p020,w000");
        x.talk(0, 0, 1);
        Check.due("half of 1 and 2", x.regret(0, 1), 1);
        Check.due("of the other one, too", x.regret(1, 1), 1);
        x.talk(1, 1, 2);
        Check.due("half of 1 and 0", x.regret(1, 2), 0);
        Check.due("half of 0 and 1", x.regret(2, 2), 0);
        Check.due("who doesn't talk", x.regret(0, 2), 1);
        x.talk(1, 0, 1);
        Check.due("half of 1 and 1", x.regret(0, 2), 1);
        x.dig(1, true);
        Check.due("half of 6 and 6", x.regret(1, 2), 6);
    }

    private static void dueAtTheLimits() {
        RegretLine x = Check.on("r444;-,p190,p200,p390,p400");
        for (int p = 0; p < 4; p++) {
            Check.due("due of " + p, x.due(p, 0), new int[] {0, 1, 1, 2}[p]);
        }
        x.limits(20, 20);
        Check.due("below both limits", x.due(0, 0), 0);
        Check.due("at both limits", x.due(1, 0), 2);
        x.limits(0, 0);
        Check.due("nobody is below 0", x.due(0, 0), 2);
        x.limits(0, 99);
        Check.due("all are below 99", x.due(3, 0), 1);
        x.limits(99, 99);
        Check.due("all are below both", x.due(3, 0), 0);
        RegretLine most = Check.on("r444;uuuuuuuu,h590,p580");
        most.limits(99, 99);
        Check.due("at the most", most.due(0, 8), 2);
        Check.due("one below it", most.due(1, 8), 0);
        RegretLine none = Check.on("r444;-,p000");
        none.limits(0, 1);
        Check.due("none at 0, 1", none.due(0, 0), 1);
        none.limits(1, 1);
        Check.due("none at 1, 1", none.due(0, 0), 0);
    }

    private static void many() {
        for (int what : new int[] {-1, 3, MIN, MAX}) {
            Twin.refused("many " + what, Made::two, x -> x.many(what), OUTSIDE);
            Twin.refused("many " + what + " without a line", Made::withoutLine, x -> x.many(what), OUTSIDE);
        }
        int[][] want = {{0, 0, 0}, {1, 1, 0}, {2, 2, 2}, {4, 8, 8}};
        RegretLine[] made = {Made.withoutLine(), Made.least(), Made.two(), Made.most()};
        for (int k = 0; k < 4; k++) {
            for (int what = 0; what < 3; what++) {
                Check.due("many " + what, made[k].many(what), want[k][what]);
            }
        }
    }
}
