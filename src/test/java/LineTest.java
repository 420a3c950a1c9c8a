/** Promises 1 to 9, and 30: the line. */
public final class LineTest {
    private static final int UNKNOWN = RegretLine.UNKNOWN, OUTSIDE = RegretLine.OUTSIDE;
    private static final int STATE = RegretLine.STATE, NONE = RegretLine.NONE;
    private static final int MIN = Integer.MIN_VALUE, MAX = Integer.MAX_VALUE;

    public static void main(String[] args) {
        newObject();
        textsThatAreTaken();
        firstFaults();
        codesOfWiderLanes();
        refusalsAndFaultsOfLine();
        textEndsAheadOfTheRow();
        lineMakesAllAnew();
        refusedTextChangesNothing();
        ofPassenger();
        seats();
        limits();
        dig();
        regretByKinds();
        regretHasBounds();
        talk();
        talkersOrder();
        due();
        many();
        Check.finish("LineTest");
    }

    private static void newObject() {
        RegretLine x = new RegretLine();
        Check.due("new: fault", x.fault(), 0);
        Check.due("new: trace", x.trace(), 0);
        for (int what = 0; what < 3; what++) {
            Check.due("new: many", x.many(what), 0);
        }
        for (int k = 0; k < 4; k++) {
            Check.due("new: lose", x.lose(k), 0);
            Check.due("new: put", x.put(k, 0, 0), -11);
        }
        Check.due("new: ofPassenger", x.ofPassenger(0, 0), UNKNOWN);
        Check.due("new: seats", x.seats(9, 9), STATE);
        Check.due("new: limits", x.limits(9, 5), STATE);
        Check.due("new: dig", x.dig(-1, false), STATE);
        Check.due("new: talk", x.talk(-1, 5, 5), STATE);
        Check.due("new: regret", x.regret(0, 0), UNKNOWN);
        Check.due("new: due", x.due(0, 0), UNKNOWN);
        Check.due("new: ease(0)", x.ease(0), STATE);
        Check.due("new: ease(-2)", x.ease(-2), UNKNOWN);
        Check.due("new: stuck", x.stuck(), STATE);
        Check.due("new: help", x.help(0, 1, 0), UNKNOWN);
    }

    private static void textsThatAreTaken() {
        String[] texts = {"r000;-,p000", "r444;u,h599", "r123;-u-u-u-u,p000,w111,h222,p333", "r012;uuuuuuuu,w599"};
        int[] passengers = {1, 1, 4, 1};
        int[] miles = {1, 1, 8, 8};
        for (int k = 0; k < texts.length; k++) {
            RegretLine x = new RegretLine();
            Check.due(texts[k], Check.take(x, texts[k]), passengers[k]);
            Check.due(texts[k] + " fault", x.fault(), 0);
            Check.due(texts[k] + " miles", x.many(1), miles[k]);
            for (int end = 0; end < texts[k].indexOf(',') + 5; end++) {
                String begun = texts[k].substring(0, end);
                Check.due("just " + begun, Check.take(x, begun), -100 - end);
            }
        }
    }

    private static void firstFaults() {
        fault("", 0);
        fault("x", 0);
        fault("R123;-,p000", 0);
        fault("r523;-,p000", 1);
        fault("r153;-,p000", 2);
        fault("r125;-,p000", 3);
        fault("r12/;-,p000", 3);
        fault("r123:-,p000", 4);
        fault("r1234;-,p000", 4);
        fault("r123;,p000", 5);
        fault("r123;;", 5);
        fault("r123;-;", 6);
        fault("r123;--------", 13);
        fault("r123;---------,p000", 13);
        fault("r123;uuuuuuuuu", 13);
        fault("r123;-,", 7);
        fault("r123;-,x000", 7);
        fault("r123;-,,", 7);
        fault("r123;-,p600", 8);
        fault("r123;-,p6", 8);
        fault("r123;-,p5", 9);
        fault("r123;-,p5:0", 9);
        fault("r123;-,p59/", 10);
        fault("r123;-,p59", 10);
        fault("r123;-,p599-", 11);
        fault("r123;-,p599,", 12);
        fault("r123;-,p599,w", 13);
        fault("r123;-,p599,w59", 15);
        fault("r123;-,p599,w599,h599,p599,", 26);
        fault("r123;-,p599,w599,h599,p599;", 26);
        fault("r123;-,p599,w599,h599,p59", 25);
    }

    private static void fault(String text, int place) {
        RegretLine x = new RegretLine();
        Check.due("line of '" + text + "'", Check.take(x, text), -100 - place);
        Check.due("fault() behind it", x.fault(), 0);
        Check.due("many behind it", x.many(0) + x.many(1), 0);
    }

    private static void codesOfWiderLanes() {
        int[] codes = "zzr321;u-,h123".chars().toArray();
        for (int lane = 0; lane < 3; lane++) {
            RegretLine x = new RegretLine();
            Check.row(x, 3, lane, codes);
            Check.due("line from 2 on, lane " + lane, x.line(3, lane, 2, 12), 1);
            Check.due("its regret", x.ofPassenger(0, 1), 12);
            Check.due("its seats", x.seats(0, 0), 3);
            Check.due("from 1 on", x.line(3, lane, 1, 12), -100);
            Check.due("one less", x.line(3, lane, 2, 11), -111);
        }
        RegretLine x = new RegretLine();
        codes[10] = 65536 + 'h';
        Check.row(x, 3, 2, codes);
        Check.due("a code that is h but for its upper half", x.line(3, 2, 2, 12), -108);
        codes[10] = 'h' - 256;
        Check.row(x, 3, 1, codes);
        Check.due("a code that is h but for its upper byte", x.line(3, 1, 2, 12), -108);
    }

    private static void refusalsAndFaultsOfLine() {
        RegretLine x = new RegretLine();
        Check.due("no sheet 4", x.line(4, 7, 0, -1), UNKNOWN);
        Check.due("no sheet -1", x.line(-1, 0, 0, 0), UNKNOWN);
        Check.due("no lane 3", x.line(0, 3, 0, -1), OUTSIDE);
        Check.due("no lane -1", x.line(0, -1, 0, -1), OUTSIDE);
        lineFault(x, 2, -1, -1, 1);
        Check.due("refused behind a fault", x.line(4, 0, 0, 0), UNKNOWN);
        Check.due("fault() of a refused call", x.fault(), 0);
        x.sheet(0, 1, 5);
        lineFault(x, 0, 0, -1, 2);
        lineFault(x, 2, 0, 5, 2);
        lineFault(x, 1, -1, -1, 4);
        lineFault(x, 1, 0, MIN, 4);
        lineFault(x, 1, 0, 6, 3);
        lineFault(x, 1, 1, 5, 3);
        lineFault(x, 1, -1, 0, 3);
        lineFault(x, 1, 6, 0, 3);
        lineFault(x, 1, MAX, 1, 3);
        lineFault(x, 1, MAX, MAX, 3);
        lineFault(x, 1, MIN, MAX, 3);
        lineFault(x, 1, 1, MAX, 3);
        Check.due("none of the cells from the end on", x.line(0, 1, 5, 0), -100);
        x.sheet(1, 0, 0);
        Check.due("none of no cells", x.line(1, 0, 0, 0), -100);
    }

    private static void lineFault(RegretLine x, int lane, int i, int n, int fault) {
        String call = "line(0, " + lane + ", " + i + ", " + n + ")";
        Check.due(call, x.line(0, lane, i, n), -10 - fault);
        Check.due("fault() of " + call, x.fault(), fault);
    }

    private static void textEndsAheadOfTheRow() {
        RegretLine x = new RegretLine();
        String text = "r123;-u,p300,p500,";
        Check.row(x, 2, 1, text.chars().toArray());
        for (int n = 0; n <= text.length(); n++) {
            int want = n == 12 ? 1 : n == 17 ? 2 : -100 - n;
            Check.due("the first " + n + " of " + text, x.line(2, 1, 0, n), want);
        }
    }

    private static void lineMakesAllAnew() {
        RegretLine x = Check.on("r123;-u,p300,p500");
        x.limits(1, 2);
        x.talk(0, 1, 0);
        x.dig(0, true);
        x.reading(0, 0, 0);
        x.tell(0);
        x.sheet(2, 2, 7);
        Check.due("taken again", Check.take(x, "r123;-u,p300,p500"), 2);
        Check.due("readings anew", x.many(2), 0);
        Check.due("talk anew", x.talk(0, NONE, NONE), NONE);
        Check.due("open anew", x.dig(0, false), 0);
        Check.due("limits anew", x.limits(0, 0), 2040);
        Check.due("trace stays", x.trace(), 1);
        Check.due("sheets stay", x.put(2, 6, 1), 1);
        Check.due("fewer passengers", Check.take(x, "r123;u,w100"), 1);
        Check.due("no second one", x.regret(1, 0), UNKNOWN);
        Check.due("no second mile", x.regret(0, 2), OUTSIDE);
        Check.due("regret anew", x.regret(0, 1), 15);
    }

    private static void refusedTextChangesNothing() {
        RegretLine x = Check.on("r123;-u,p305,h500");
        x.limits(7, 9);
        x.talk(1, 1, 0);
        x.reading(1, 2, 2);
        Check.due("a text with a fault", Check.take(x, "r444;u,w111,w222,w33"), -120);
        Check.due("passengers", x.many(0), 2);
        Check.due("miles", x.many(1), 2);
        Check.due("readings", x.many(2), 1);
        Check.due("regret at first", x.regret(0, 0), 30);
        Check.due("regret by talking", x.regret(0, 2), 45);
        Check.due("seats", x.seats(0, 1), 1);
        Check.due("talk", x.talk(1, 1, 0), 10);
        Check.due("limits", x.limits(7, 9), 709);
        Check.due("an INDEX", x.line(0, 0, 0, 61), -13);
        Check.due("passengers still", x.many(0), 2);
    }

    private static void ofPassenger() {
        RegretLine x = Check.on("r123;-,p059,w590,h347");
        int[][] want = {{0, 5, 9}, {1, 59, 0}, {2, 34, 7}};
        for (int p = 0; p < 3; p++) {
            for (int what = 0; what < 3; what++) {
                Check.due("ofPassenger(" + p + ", " + what + ")", x.ofPassenger(p, what), want[p][what]);
            }
            Check.due("ofPassenger(p, -1)", x.ofPassenger(p, -1), OUTSIDE);
            Check.due("ofPassenger(p, 3)", x.ofPassenger(p, 3), OUTSIDE);
        }
        Check.due("ofPassenger(3, 9)", x.ofPassenger(3, 9), UNKNOWN);
        Check.due("ofPassenger(-1, 0)", x.ofPassenger(-1, 0), UNKNOWN);
        Check.due("ofPassenger(MIN, 0)", x.ofPassenger(MIN, 0), UNKNOWN);
    }

    private static void seats() {
        RegretLine x = Check.on("r123;-,p059");
        for (int c = 0; c < 3; c++) {
            Check.due("seats(c, 4)", x.seats(c, 4), c + 1);
            Check.due("seats(c, 0)", x.seats(c, 0), 4);
            Check.due("seats(c, 5)", x.seats(c, 5), OUTSIDE);
            Check.due("seats(c, -1)", x.seats(c, -1), OUTSIDE);
            Check.due("seats(c, 1)", x.seats(c, 1), 0);
        }
        Check.due("seats(-1, 0)", x.seats(-1, 0), OUTSIDE);
        Check.due("seats(3, 0)", x.seats(3, 0), OUTSIDE);
    }

    private static void limits() {
        RegretLine x = Check.on("r123;-,p200");
        Check.due("limits(0, 99)", x.limits(0, 99), 2040);
        Check.due("limits(50, 50)", x.limits(50, 50), 99);
        Check.due("limits(51, 50)", x.limits(51, 50), OUTSIDE);
        Check.due("limits(-1, 50)", x.limits(-1, 50), OUTSIDE);
        Check.due("limits(50, 100)", x.limits(50, 100), OUTSIDE);
        Check.due("limits(100, 100)", x.limits(100, 100), OUTSIDE);
        Check.due("limits(-2, -1)", x.limits(-2, -1), OUTSIDE);
        Check.due("limits(99, 99)", x.limits(99, 99), 5050);
        Check.due("limits(0, 0)", x.limits(0, 0), 9999);
        Check.due("due 2 by limits 0, 0", x.due(0, 0), 2);
    }

    private static void dig() {
        RegretLine x = Check.on("r123;-u,p305");
        Check.due("dig(0, false)", x.dig(0, false), 0);
        Check.due("dig(1, true)", x.dig(1, true), 0);
        Check.due("dig(0, true)", x.dig(0, true), 1);
        Check.due("regret behind what was dug", x.regret(0, 1), 35);
        Check.due("and behind the next", x.regret(0, 2), 40);
        Check.due("dig(1, false)", x.dig(1, false), 1);
        Check.due("regret behind what was opened", x.regret(0, 2), 30);
        Check.due("dig(2, true)", x.dig(2, true), OUTSIDE);
        Check.due("dig(-1, true)", x.dig(-1, true), OUTSIDE);
    }

    private static void regretByKinds() {
        RegretLine x = Check.on("r123;-u-,p352,w405,h101,w200");
        int[][] want = {{35, 33, 38, 36}, {40, 36, 41, 37}, {10, 9, 19, 18}, {20, 20, 25, 25}};
        for (int p = 0; p < 4; p++) {
            for (int mile = 0; mile <= 3; mile++) {
                Check.due("regret(" + p + ", " + mile + ")", x.regret(p, mile), want[p][mile]);
            }
            Check.due("regret(p, 4)", x.regret(p, 4), OUTSIDE);
            Check.due("regret(p, -1)", x.regret(p, -1), OUTSIDE);
        }
        Check.due("regret(4, 9)", x.regret(4, 9), UNKNOWN);
        Check.due("regret(-1, 0)", x.regret(-1, 0), UNKNOWN);
        RegretLine w = Check.on("r123;-,w201");
        Check.due("a widow's that fades by 1", w.regret(0, 1), 20);
    }

    private static void regretHasBounds() {
        RegretLine x = Check.on("r123;uuuuuuuu,h599,p590,w000");
        Check.due("regret of h behind 4 tunnels", x.regret(0, 4), 99);
        Check.due("behind 5", x.regret(0, 5), 99);
        Check.due("behind 8", x.regret(0, 8), 99);
        Check.due("regret of p behind 7 tunnels", x.regret(1, 7), 94);
        Check.due("behind 8 of p", x.regret(1, 8), 99);
        x.talk(4, 0, 2);
        Check.due("half of 99 and 25", x.regret(0, 5), 62);
        RegretLine y = Check.on("r123;--u,p159,h059,w059");
        Check.due("p at 0", y.regret(0, 2), 0);
        Check.due("h at 0", y.regret(1, 1), 0);
        Check.due("w at 0", y.regret(2, 1), 0);
        Check.due("p up again", y.regret(0, 3), 5);
        Check.due("h up again", y.regret(1, 3), 10);
        y.talk(0, 1, 0);
        Check.due("half of 0 and 6", y.regret(1, 1), 3);
        Check.due("the other half", y.regret(0, 1), 3);
    }

    private static void talk() {
        RegretLine x = Check.on("r123;-u-,p352,w405,h101");
        Check.due("talk(0, 0, 1)", x.talk(0, 0, 1), NONE);
        int[][] want = {{35, 34, 39, 37}, {40, 34, 39, 35}, {10, 9, 19, 18}};
        for (int p = 0; p < 3; p++) {
            for (int mile = 0; mile <= 3; mile++) {
                Check.due("talked: regret(" + p + ", " + mile + ")", x.regret(p, mile), want[p][mile]);
            }
        }
        Check.due("talk(2, 2, 1)", x.talk(2, 2, 1), NONE);
        Check.due("h with w", x.regret(2, 3), 26);
        Check.due("w with h", x.regret(1, 3), 26);
        Check.due("p alone", x.regret(0, 3), 37);
        Check.due("others in place", x.talk(0, 1, 2), 1);
        Check.due("p alone in mile 0", x.regret(0, 1), 33);
        Check.due("w and h in mile 0", x.regret(1, 1), 22);
        Check.due("nobody", x.talk(0, NONE, NONE), 12);
        Check.due("still nobody", x.talk(0, NONE, NONE), NONE);
        Check.due("w alone", x.regret(1, 1), 36);
        Check.due("mile 2 stays", x.talk(2, 0, 1), 21);
    }

    private static void talkersOrder() {
        RegretLine x = Check.on("r123;-u-,p352,w405,h101");
        Check.due("talk(1, 2, 0)", x.talk(1, 2, 0), NONE);
        Check.due("talk(3, 9, 9)", x.talk(3, 9, 9), OUTSIDE);
        Check.due("talk(-1, 0, 1)", x.talk(-1, 0, 1), OUTSIDE);
        Check.due("talk(1, 3, 0)", x.talk(1, 3, 0), UNKNOWN);
        Check.due("talk(1, 0, 3)", x.talk(1, 0, 3), UNKNOWN);
        Check.due("talk(1, -1, 0)", x.talk(1, -1, 0), UNKNOWN);
        Check.due("talk(1, 1, 1)", x.talk(1, 1, 1), UNKNOWN);
        Check.due("talk(1, NONE, 0)", x.talk(1, NONE, 0), UNKNOWN);
        Check.due("talk(1, 0, NONE)", x.talk(1, 0, NONE), UNKNOWN);
        Check.due("talk(1, -8, -8)", x.talk(1, -8, -8), UNKNOWN);
        Check.due("refused ones changed nothing", x.talk(1, 0, 2), 20);
        Check.due("the other way round", x.talk(1, 1, 2), 2);
    }

    private static void due() {
        RegretLine x = Check.on("r123;uu-,p195,p399,w200,h400");
        int[][] want = {{0, 1, 1, 1}, {1, 2, 2, 2}, {1, 1, 1, 1}, {2, 2, 2, 2}};
        for (int p = 0; p < 4; p++) {
            for (int mile = 0; mile <= 3; mile++) {
                Check.due("due(" + p + ", " + mile + ")", x.due(p, mile), want[p][mile]);
            }
            Check.due("due(p, 4)", x.due(p, 4), OUTSIDE);
            Check.due("due(p, -1)", x.due(p, -1), OUTSIDE);
        }
        Check.due("due(4, -1)", x.due(4, -1), UNKNOWN);
        x.limits(19, 19);
        Check.due("at both limits", x.due(0, 0), 2);
        x.limits(19, 20);
        Check.due("at the first limit", x.due(0, 0), 1);
        x.limits(20, 20);
        Check.due("below both", x.due(0, 0), 0);
    }

    private static void many() {
        RegretLine x = Check.on("r123;uu-,p195,p399");
        x.reading(0, 0, 0);
        Check.due("many(0)", x.many(0), 2);
        Check.due("many(1)", x.many(1), 3);
        Check.due("many(2)", x.many(2), 1);
        Check.due("many(3)", x.many(3), OUTSIDE);
        Check.due("many(-1)", x.many(-1), OUTSIDE);
    }
}
