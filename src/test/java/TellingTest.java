/** Promises 25 to 28: telling. */
public final class TellingTest {
    private static final int UNKNOWN = RegretLine.UNKNOWN, OUTSIDE = RegretLine.OUTSIDE;

    public static void main(String[] args) {
        tell();
        call();
        traceWraps();
        as();
        Check.finish("TellingTest");
    }

    private static int traceOf(int from, int... numbers) {
        int trace = from;
        for (int number : numbers) {
            trace = 31 * trace + number;
        }
        return trace;
    }

    private static void tell() {
        RegretLine x = Check.on("r444;-,p104,w207,h309");
        Check.due("tell(0)", x.tell(0), 4);
        Check.due("trace", x.trace(), 1);
        Check.due("tell(1)", x.tell(1), 107);
        Check.due("trace", x.trace(), traceOf(1, 2, 1));
        Check.due("tell(2)", x.tell(2), 118);
        int trace = traceOf(1, 2, 1, 3, 2, 1, 1);
        Check.due("trace", x.trace(), trace);
        Check.due("tell(3)", x.tell(3), UNKNOWN);
        Check.due("tell(-1)", x.tell(-1), UNKNOWN);
        Check.due("trace of the refused", x.trace(), trace);
    }

    private static void call() {
        RegretLine x = Check.on("r444;-,h104,p104,w207,p309");
        Check.due("call(0)", x.call(0), 60);
        Check.due("trace", x.trace(), 5);
        Check.due("call(1)", x.call(1), 1);
        Check.due("call(2)", x.call(2), 2);
        Check.due("call(3)", x.call(3), 3);
        Check.due("trace", x.trace(), traceOf(5, 4, 4, 4));
        Check.due("call(4)", x.call(4), UNKNOWN);
        Check.due("call(-1)", x.call(-1), UNKNOWN);
        Check.due("trace of the refused", x.trace(), traceOf(5, 4, 4, 4));
    }

    private static void traceWraps() {
        RegretLine x = Check.on("r444;-,h104");
        int trace = 0;
        for (int k = 0; k < 40; k++) {
            x.tell(0);
            trace = traceOf(trace, 3, 2, 1, 1);
            Check.due("trace " + k, x.trace(), trace);
        }
    }

    private static void as() {
        RegretLine x = Check.on("r444;-,p104,w207,h309");
        for (int p = 0; p < 3; p++) {
            for (int kind = 0; kind < 3; kind++) {
                boolean is = kind <= p;
                Check.due("as(" + p + ", " + kind + ")", x.as(p, kind), is ? 1 : -12);
                Check.due("its fault", x.fault(), is ? 0 : 2);
            }
            x.as(0, 2);
            Check.due("as(p, 3)", x.as(p, 3), OUTSIDE);
            Check.due("its fault", x.fault(), 0);
            Check.due("as(p, -1)", x.as(p, -1), OUTSIDE);
        }
        x.as(0, 2);
        Check.due("as(3, 9)", x.as(3, 9), UNKNOWN);
        Check.due("its fault", x.fault(), 0);
        Check.due("as(-1, 0)", x.as(-1, 0), UNKNOWN);
        Check.due("kind stays", x.ofPassenger(2, 0), 2);
        Check.due("no trace", x.trace(), 0);
    }
}
