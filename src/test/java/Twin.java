import java.util.ArrayList;
import java.util.List;
import java.util.function.Supplier;
import java.util.function.ToLongFunction;

/**
 * Refused calls: of two objects that were made alike one gets the call. Its answer is as due, and
 * all that both answer behind it is alike.
 */
final class Twin {
    /** What fault() tells behind a call that names no FAULTS. */
    private static final int AS_IT_WAS = -1;

    private Twin() {
    }

    /** A refused call that names no FAULTS: fault() stays, too. */
    static void refused(String name, Supplier<RegretLine> made, ToLongFunction<RegretLine> call, long want) {
        compare(name, made, call, want, AS_IT_WAS);
    }

    /** A call that names FAULTS and is refused (fault 0), or comes to one. */
    static void refused(String name, Supplier<RegretLine> made, ToLongFunction<RegretLine> call, long want, int fault) {
        compare(name, made, call, want, fault);
    }

    static void faulty(String name, Supplier<RegretLine> made, ToLongFunction<RegretLine> call, int fault) {
        compare(name, made, call, -10 - fault, fault);
    }

    static void lost(String name, Supplier<RegretLine> made, ToLongFunction<RegretLine> call, int fault) {
        compare(name, made, call, RegretLine.LOST, fault);
    }

    private static void compare(String name, Supplier<RegretLine> made, ToLongFunction<RegretLine> call, long want,
            int fault) {
        // Two unlike FAULTS ahead, so that one which is left from before is not taken for the call's own.
        for (int before = 0; before < 2; before++) {
            RegretLine left = comeToFault(made.get(), before);
            RegretLine asked = comeToFault(made.get(), before);
            Check.due(name, call.applyAsLong(asked), want);
            Check.due(name + ": fault()", asked.fault(), fault == AS_IT_WAS ? left.fault() : fault);
            List<String> was = allOf(left);
            List<String> is = allOf(asked);
            Check.due(name + " changed nothing: " + firstUnlike(was, is), was.equals(is));
        }
    }

    private static RegretLine comeToFault(RegretLine x, int which) {
        if (which == 0) {
            x.sheet(0, 0, -1);
        } else {
            x.put(0, -1, 0);
        }
        return x;
    }

    private static String firstUnlike(List<String> was, List<String> is) {
        for (int k = 0; k < was.size() && k < is.size(); k++) {
            if (!was.get(k).equals(is.get(k))) {
                return was.get(k) + ", then " + is.get(k);
            }
        }
        return was.size() + " answers, then " + is.size();
    }

    /** All that an object tells; it is used up by that. */
    static List<String> allOf(RegretLine x) {
        List<String> all = new ArrayList<>();
        all.add("trace " + x.trace());
        for (int what = 0; what < 3; what++) {
            all.add("many " + what + ": " + x.many(what));
        }
        for (int p = 0; p < x.many(0); p++) {
            ofPassenger(x, p, all);
        }
        ofEase(x, all);
        for (int k = 0; k < 4; k++) {
            ofSheet(x, k, all);
        }
        ofReadings(x, all);
        ofLine(x, all);
        return all;
    }

    private static void ofPassenger(RegretLine x, int p, List<String> all) {
        String who = "passenger " + p + ": ";
        for (int what = 0; what < 3; what++) {
            all.add(who + x.ofPassenger(p, what));
        }
        for (int mile = 0; mile <= x.many(1); mile++) {
            all.add(who + "ahead of mile " + mile + ": " + x.regret(p, mile));
        }
        all.add(who + "kinds " + x.kinds(p) + ", fadings " + x.fadings(p) + ", began " + x.began(p, 0));
        all.add(who + "odds " + x.odds(p, 1, 0) + "/" + x.odds(p, 1, 1));
    }

    private static void ofEase(RegretLine x, List<String> all) {
        all.add("stuck " + x.stuck());
        int row = x.many(0) * x.many(1);
        for (int k = -1; k < row; k++) {
            all.add("ease " + k + ": " + x.ease(k));
        }
    }

    private static void ofSheet(RegretLine x, int k, List<String> all) {
        for (int lane = 0; lane < 3; lane++) {
            long cell = x.cell(k, 0, lane);
            all.add("sheet " + k + " as of lane " + lane + ": " + cell + ", fault " + x.fault());
            for (int i = 1; i <= 60 && cell != RegretLine.LOST; i++) {
                cell = x.cell(k, i, lane);
                all.add("cell " + i + " of sheet " + k + ": " + cell);
            }
        }
    }

    private static void ofReadings(RegretLine x, List<String> all) {
        while (x.back(1) >= 0) {
            for (int p = 0; p < x.many(0); p++) {
                all.add("one reading less: " + x.began(p, 0) + " of " + p + ", " + x.many(2));
            }
        }
    }

    private static void ofLine(RegretLine x, List<String> all) {
        for (int c = 0; c < 3; c++) {
            all.add("seats " + c + ": " + x.seats(c, 0));
        }
        all.add("limits " + x.limits(0, 0));
        for (int mile = 0; mile < x.many(1); mile++) {
            all.add("tunnel " + mile + ": " + x.dig(mile, true) + ", talk " + x.talk(mile, -9, -9));
        }
    }
}
