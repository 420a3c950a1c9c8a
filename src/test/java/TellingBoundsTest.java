import java.util.function.ToLongFunction;

/** Promises 25 to 29: bounds of telling, calling, taking as a kind; TRACE that wraps; of which call fault() is. */
public final class TellingBoundsTest {
    private static final int UNKNOWN = RegretLine.UNKNOWN, OUTSIDE = RegretLine.OUTSIDE;
    private static final int MIN = Integer.MIN_VALUE, MAX = Integer.MAX_VALUE;
    private static final int[] NOBODY = {-1, 2, 3, 4, -9, MIN, MAX};

    public static void main(String[] args) {
        refused();
        tellAtItsEnds();
        callAtItsEnds();
        asEachKind();
        traceWraps();
        traceIsOneForAll();
        noFaultAheadOfAny();
        callsThatNameNoFaults();
        callsThatNameFaults();
        fiveHundredAndTwelveCalls();
        Check.finish("TellingBoundsTest");
    }

    private static void refused() {
        for (int p : NOBODY) {
            Twin.refused("tell " + p, Made::two, x -> x.tell(p), UNKNOWN);
            Twin.refused("call " + p, Made::two, x -> x.call(p), UNKNOWN);
            Twin.refused("as of " + p, Made::two, x -> x.as(p, 0), UNKNOWN, 0);
            Twin.refused("as of " + p + ", no kind", Made::two, x -> x.as(p, 3), UNKNOWN, 0);
        }
        for (int kind : new int[] {-1, 3, MIN, MAX}) {
            for (int p = 0; p < 2; p++) {
                int who = p;
                Twin.refused("as kind " + kind, Made::two, x -> x.as(who, kind), OUTSIDE, 0);
            }
        }
        Twin.refused("a fifth: tell", Made::most, x -> x.tell(4), UNKNOWN);
        Twin.refused("a fifth: call", Made::most, x -> x.call(4), UNKNOWN);
        Twin.refused("a fifth: as", Made::most, x -> x.as(4, 0), UNKNOWN, 0);
        Twin.refused("no line: tell", Made::withoutLine, x -> x.tell(0), UNKNOWN);
        Twin.refused("no line: call", Made::withoutLine, x -> x.call(0), UNKNOWN);
        Twin.refused("no line: as", Made::withoutLine, x -> x.as(0, 0), UNKNOWN, 0);
        Twin.refused("no line: as no kind", Made::withoutLine, x -> x.as(0, 3), UNKNOWN, 0);
    }

    private static void told(String text, int answer, int trace) {
        RegretLine x = Check.on(text);
        int last = x.many(0) - 1;
        Check.due("tell of " + text, x.tell(last), answer);
        Check.due("trace of " + text, x.trace(), trace);
    }

    private static void tellAtItsEnds() {
        told("r444;-,p590", 0, 1);
        told("r444;-,p009", 9, 1);
        told("r444;-,w590", 100, 2 * 31 + 1);
        told("r444;-,w009", 109, 2 * 31 + 1);
        int honeymooner = ((3 * 31 + 2) * 31 + 1) * 31 + 1;
        told("r444;-,h590", 100, honeymooner);
        told("r444;-,h009", 118, honeymooner);
        told("r444;-,p000,p000,p000,h001", 102, honeymooner);
    }

    private static void callAtItsEnds() {
        String[] kinds = {"p", "w", "h"};
        for (int kind = 0; kind < 3; kind++) {
            RegretLine x = Check.on("r444;-," + kinds[kind] + "109,p000,p000," + kinds[kind] + "590");
            Check.due("call(0)", x.call(0), kind == 2 ? 60 : 0);
            Check.due("trace", x.trace(), kind == 2 ? 5 : 4);
            Check.due("call(3)", x.call(3), kind == 2 ? 60 : 3);
            Check.due("trace", x.trace(), kind == 2 ? 5 * 31 + 5 : 4 * 31 + 4);
            Check.due("call(4)", x.call(4), UNKNOWN);
        }
    }

    private static RegretLine three() {
        return Check.on("r444;-,p100,w100,h100");
    }

    private static void asEachKind() {
        for (int p = 0; p < 3; p++) {
            for (int kind = 0; kind < 3; kind++) {
                int who = p;
                int as = kind;
                String name = p + " as " + kind;
                if (kind <= p) {
                    Twin.refused(name, TellingBoundsTest::three, x -> x.as(who, as), 1, 0);
                } else {
                    Twin.faulty(name, TellingBoundsTest::three, x -> x.as(who, as), 2);
                }
            }
        }
    }

    private static void traceWraps() {
        RegretLine x = Check.on("r444;-,h109,p000,w000");
        long exact = 0;
        boolean above = false;
        boolean below = false;
        for (int k = 0; k < 20; k++) {
            int who = k % 2;
            Check.due("call", x.call(who), who == 0 ? 60 : 1);
            exact = (int) (exact * 31 + (who == 0 ? 5 : 4));
            Check.due("trace behind " + (k + 1) + " calls", x.trace(), exact);
            above |= exact > 1L << 30;
            below |= exact < 0;
        }
        Check.due("it went beyond the most int", above && below);
    }

    private static void traceIsOneForAll() {
        RegretLine x = Check.on("r444;-,h100,p001,w002");
        x.tell(1);
        x.call(0);
        x.tell(2);
        int trace = ((1 * 31 + 5) * 31 + 2) * 31 + 1;
        Check.due("of all calls together", x.trace(), trace);
        x.as(0, 1);
        x.ofPassenger(0, 0);
        x.kinds(0);
        x.trace();
        Check.due("others leave nothing", x.trace(), trace);
        Check.take(x, "r444;-,p000");
        Check.due("a new line leaves it", x.trace(), trace);
        x.call(0);
        Check.due("it goes on", x.trace(), trace * 31 + 4);
    }

    private static void noFaultAheadOfAny() {
        RegretLine x = new RegretLine();
        Check.due("ahead of any call", x.fault(), 0);
        x.many(9);
        x.lose(9);
        x.tell(0);
        Check.due("ahead of any that names one", x.fault(), 0);
        x.put(9, 0, 0);
        Check.due("behind a refused one", x.fault(), 0);
        x.put(0, 0, 0);
        Check.due("behind a NULL", x.fault(), 1);
    }

    /** Each of these, taken or refused, leaves fault() as it was. */
    private static void callsThatNameNoFaults() {
        keepsFault("ofPassenger", x -> x.ofPassenger(0, 0), x -> x.ofPassenger(9, 0));
        keepsFault("seats", x -> x.seats(0, 0), x -> x.seats(0, 9));
        keepsFault("limits", x -> x.limits(0, 0), x -> x.limits(9, 0));
        keepsFault("dig", x -> x.dig(0, true), x -> x.dig(9, true));
        keepsFault("talk", x -> x.talk(0, 0, 1), x -> x.talk(0, 9, 1));
        keepsFault("regret", x -> x.regret(0, 0), x -> x.regret(0, 9));
        keepsFault("due", x -> x.due(0, 0), x -> x.due(9, 0));
        keepsFault("ease", x -> x.ease(0), x -> x.ease(-2));
        keepsFault("stuck", x -> x.stuck(), x -> x.stuck());
        keepsFault("help", x -> x.help(0, 1, 0), x -> x.help(0, 0, 0));
        keepsFault("reading", x -> x.reading(0, 0, 0), x -> x.reading(0, 0, 9));
        keepsFault("back", x -> x.back(0), x -> x.back(9));
        keepsFault("began", x -> x.began(0, 0), x -> x.began(0, 9));
        keepsFault("kinds", x -> x.kinds(0), x -> x.kinds(9));
        keepsFault("fadings", x -> x.fadings(0), x -> x.fadings(9));
        keepsFault("odds", x -> x.odds(0, 0, 0), x -> x.odds(0, 0, 9));
        keepsFault("lose", x -> x.lose(0), x -> x.lose(9));
        keepsFault("tell", x -> x.tell(0), x -> x.tell(9));
        keepsFault("call", x -> x.call(0), x -> x.call(9));
        keepsFault("trace", x -> x.trace(), x -> x.trace());
        keepsFault("fault", x -> x.fault(), x -> x.fault());
        keepsFault("many", x -> x.many(0), x -> x.many(9));
    }

    private static void keepsFault(String name, ToLongFunction<RegretLine> taken, ToLongFunction<RegretLine> refused) {
        for (RegretLine x : new RegretLine[] {Made.two(), Made.withoutLine()}) {
            x.sheet(0, 0, -1);
            taken.applyAsLong(x);
            Check.due(name + " behind a SIZE", x.fault(), 4);
            x.put(1, 60, 0);
            refused.applyAsLong(x);
            Check.due(name + ", refused, behind an INDEX", x.fault(), 3);
        }
    }

    /** Each of these, if it comes to none, makes it 0. */
    private static void callsThatNameFaults() {
        clearsFault("line", x -> x.line(0, 0, 0, 17), 2);
        clearsFault("line of a wrong text", x -> x.line(0, 0, 0, 16), -116);
        clearsFault("line refused", x -> x.line(4, 0, 0, 17), UNKNOWN);
        clearsFault("seating", x -> x.seating(2, 2, 0, 4, 0), OUTSIDE);
        clearsFault("seating refused", x -> x.seating(2, 2, 0, 4, 9), OUTSIDE);
        clearsFault("sheet", x -> x.sheet(1, 1, 1), 1);
        clearsFault("sheet refused", x -> x.sheet(1, 1, 61), OUTSIDE);
        clearsFault("put", x -> x.put(1, 1, 1), 1);
        clearsFault("put refused", x -> x.put(4, 1, 1), UNKNOWN);
        clearsFault("cell", x -> x.cell(1, 1, 1), 1);
        clearsFault("cell refused", x -> x.cell(1, 1, 3), RegretLine.LOST);
        clearsFault("copy", x -> x.copy(1, 1, 1, 0, 1), 1);
        clearsFault("copy refused", x -> x.copy(1, 1, 4, 0, 1), UNKNOWN);
        clearsFault("as", x -> x.as(1, 1), 1);
        clearsFault("as refused", x -> x.as(1, 3), OUTSIDE);
    }

    private static void clearsFault(String name, ToLongFunction<RegretLine> call, long want) {
        RegretLine x = Made.two();
        for (int fault = 1; fault <= 4; fault++) {
            Check.due("a fault", comeTo(x, fault), -10 - fault);
            Check.due("it is told", x.fault(), fault);
            long got = call.applyAsLong(x);
            Check.due(name + " behind fault " + fault, x.fault(), 0);
            if (fault == 1) {
                Check.due(name, got, want);
            }
        }
    }

    private static int comeTo(RegretLine x, int fault) {
        switch (fault) {
            case 1:
                return x.put(3, 0, 0);
            case 2:
                return x.copy(1, 0, 2, 0, 0);
            case 3:
                return x.put(1, 60, 0);
            default:
                return x.sheet(1, 1, -1);
        }
    }

    private static void fiveHundredAndTwelveCalls() {
        RegretLine x = Check.on("r444;-,p109");
        // One sheet, eleven cells and one line so far.
        int trace = 0;
        for (int k = 13; k < 512; k++) {
            x.call(0);
            trace = trace * 31 + 4;
        }
        Check.due("the 512th call", x.trace(), trace);
    }
}
