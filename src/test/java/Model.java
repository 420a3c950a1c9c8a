import java.util.ArrayList;
import java.util.Arrays;
import java.util.List;
import java.util.regex.Matcher;
import java.util.regex.Pattern;

/**
 * The document once more, in another and slower way than the class: TEXTS by a pattern, REGRETS by
 * going back mile by mile, EASE by rows, ODDS by counting all lines. ModelTest holds both together.
 */
final class Model {
    static final int UNKNOWN = -1, OUTSIDE = -2, STATE = -3, FULL = -4, NONE = -9;
    static final long LOST = Long.MIN_VALUE;
    private static final Pattern TEXT = Pattern.compile("r[0-4]{3};[-u]{1,8}(?:,[pwh][0-5][0-9][0-9]){1,4}");

    private final Object[] sheets = new Object[4];
    private final List<int[]> readings = new ArrayList<>();
    private List<int[]> people = new ArrayList<>();
    private List<int[]> talks = new ArrayList<>();
    private boolean[] tunnels = {};
    private int[] seats = {};
    private int[] limits = {20, 40};
    private int trace = 0;
    private int fault = 0;

    // ---- sheets

    private static int lengthOf(Object row) {
        return java.lang.reflect.Array.getLength(row);
    }

    private static int laneOf(Object row) {
        return row instanceof byte[] ? 0 : row instanceof short[] ? 1 : 2;
    }

    private static int at(Object row, int i) {
        return java.lang.reflect.Array.getInt(row, i);
    }

    private static boolean within(long low, long v, long high) {
        return low <= v && v <= high;
    }

    private int failing(int number) {
        fault = number;
        return -10 - number;
    }

    int sheet(int k, int lane, int n) {
        fault = 0;
        if (!within(0, k, 3)) return UNKNOWN;
        if (!within(0, lane, 2) || n > 60) return OUTSIDE;
        if (n < 0) return failing(4);
        sheets[k] = lane == 0 ? new byte[n] : lane == 1 ? new short[n] : new int[n];
        return 1;
    }

    int lose(int k) {
        if (!within(0, k, 3)) return UNKNOWN;
        int had = sheets[k] == null ? 0 : 1;
        sheets[k] = null;
        return had;
    }

    int put(int k, int i, int v) {
        fault = 0;
        if (!within(0, k, 3)) return UNKNOWN;
        try {
            if (sheets[k] instanceof byte[] row) row[i] = (byte) v;
            else if (sheets[k] instanceof short[] row) row[i] = (short) v;
            else ((int[]) sheets[k])[i] = v;
            return 1;
        } catch (NullPointerException e) {
            return failing(1);
        } catch (IndexOutOfBoundsException e) {
            return failing(3);
        }
    }

    private int asRow(int k, int lane) {
        if (sheets[k] != null && laneOf(sheets[k]) != lane) return failing(2);
        return sheets[k] == null ? failing(1) : 0;
    }

    private int asCells(int k, int lane, int i, int n) {
        if (asRow(k, lane) != 0) return -10 - fault;
        if (n < 0) return failing(4);
        return i < 0 || (long) i + n > lengthOf(sheets[k]) ? failing(3) : 0;
    }

    long cell(int k, int i, int lane) {
        fault = 0;
        if (!within(0, k, 3) || !within(0, lane, 2) || asRow(k, lane) != 0) return LOST;
        if (!within(0, i, lengthOf(sheets[k]) - 1)) failing(3);
        return fault != 0 ? LOST : at(sheets[k], i);
    }

    int copy(int k, int i, int other, int j, int n) {
        fault = 0;
        if (!within(0, k, 3) || !within(0, other, 3)) return UNKNOWN;
        try {
            System.arraycopy(sheets[k], i, sheets[other], j, n);
            return n;
        } catch (NullPointerException e) {
            return failing(1);
        } catch (ArrayStoreException e) {
            return failing(2);
        } catch (IndexOutOfBoundsException e) {
            return failing(3);
        }
    }

    // ---- the line

    private static int firstFault(String text) {
        for (int k = 0; k < text.length(); k++) {
            Matcher begun = TEXT.matcher(text.substring(0, k + 1));
            if (!begun.matches() && !begun.hitEnd()) return k;
        }
        return TEXT.matcher(text).matches() ? -1 : text.length();
    }

    int line(int sheet, int lane, int i, int n) {
        fault = 0;
        if (!within(0, sheet, 3)) return UNKNOWN;
        if (!within(0, lane, 2)) return OUTSIDE;
        if (asCells(sheet, lane, i, n) != 0) return -10 - fault;
        StringBuilder told = new StringBuilder();
        for (int k = 0; k < n; k++) {
            int code = at(sheets[sheet], i + k);
            told.append(within(1, code, 127) ? (char) code : '?');
        }
        String text = told.toString();
        int wrong = firstFault(text);
        if (wrong >= 0) return -100 - wrong;
        String[] parts = text.substring(5).split(",");
        seats = new int[] {text.charAt(1) - '0', text.charAt(2) - '0', text.charAt(3) - '0'};
        tunnels = new boolean[parts[0].length()];
        talks = new ArrayList<>();
        for (int m = 0; m < tunnels.length; m++) {
            tunnels[m] = parts[0].charAt(m) == 'u';
            talks.add(null);
        }
        people = new ArrayList<>();
        for (int p = 1; p < parts.length; p++) {
            int number = Integer.parseInt(parts[p].substring(1));
            people.add(new int[] {"pwh".indexOf(parts[p].charAt(0)), number / 10, number % 10});
        }
        limits = new int[] {20, 40};
        readings.clear();
        return people.size();
    }

    private boolean known(int p) {
        return within(0, p, people.size() - 1);
    }

    int ofPassenger(int p, int what) {
        if (!known(p)) return UNKNOWN;
        return within(0, what, 2) ? people.get(p)[what] : OUTSIDE;
    }

    int seats(int place, int v) {
        if (people.isEmpty()) return STATE;
        if (!within(0, place, 2) || !within(0, v, 4)) return OUTSIDE;
        int was = seats[place];
        seats[place] = v;
        return was;
    }

    int limits(int a, int b) {
        if (people.isEmpty()) return STATE;
        if (!within(0, a, 99) || !within(0, b, 99) || a > b) return OUTSIDE;
        int was = limits[0] * 100 + limits[1];
        limits = new int[] {a, b};
        return was;
    }

    int dig(int mile, boolean is) {
        if (people.isEmpty()) return STATE;
        if (!within(0, mile, tunnels.length - 1)) return OUTSIDE;
        boolean was = tunnels[mile];
        tunnels[mile] = is;
        return was == is ? 0 : 1;
    }

    int talk(int mile, int a, int b) {
        if (people.isEmpty()) return STATE;
        if (!within(0, mile, tunnels.length - 1)) return OUTSIDE;
        boolean two = known(a) && known(b) && a != b;
        if (!two && (a != NONE || b != NONE)) return UNKNOWN;
        int[] were = talks.set(mile, two ? new int[] {a, b} : null);
        return were == null ? NONE : were[0] * 10 + were[1];
    }

    private int alone(int p, int mile) {
        int[] who = people.get(p);
        int ahead = regretOf(p, mile);
        int behind = ahead;
        if (tunnels[mile]) behind += who[0] == 2 ? 10 : 5;
        else if (who[0] != 1) behind -= who[2];
        else if (who[2] > 0) behind -= who[2] - 1;
        return behind < 0 ? 0 : behind > 99 ? 99 : behind;
    }

    private int regretOf(int p, int mile) {
        if (mile == 0) return people.get(p)[1];
        int[] pair = talks.get(mile - 1);
        if (pair == null || (pair[0] != p && pair[1] != p)) return alone(p, mile - 1);
        return (alone(pair[0], mile - 1) + alone(pair[1], mile - 1)) / 2;
    }

    private int dueOf(int p, int mile) {
        int regret = regretOf(p, mile);
        return regret < limits[0] ? 0 : regret < limits[1] ? 1 : 2;
    }

    int regret(int p, int mile) {
        if (!known(p)) return UNKNOWN;
        return within(0, mile, tunnels.length) ? regretOf(p, mile) : OUTSIDE;
    }

    int due(int p, int mile) {
        if (!known(p)) return UNKNOWN;
        return within(0, mile, tunnels.length) ? dueOf(p, mile) : OUTSIDE;
    }

    // ---- seatings, ease

    private boolean fits(int[] sitting) {
        int[] count = new int[3];
        for (int c : sitting) count[c]++;
        return count[0] <= seats[0] && count[1] <= seats[1] && count[2] <= seats[2];
    }

    int seating(int sheet, int lane, int i, int n, int what) {
        fault = 0;
        if (!within(0, sheet, 3)) return UNKNOWN;
        if (!within(0, lane, 2) || !(within(0, what, 3) || within(10, what, 13))) return OUTSIDE;
        if (asCells(sheet, lane, i, n) != 0) return -10 - fault;
        if (people.isEmpty()) return STATE;
        int many = people.size();
        if (n != tunnels.length * many) return OUTSIDE;
        int[] row = new int[n];
        for (int k = 0; k < n; k++) {
            row[k] = at(sheets[sheet], i + k);
            if (!within(0, row[k], 2)) return OUTSIDE;
        }
        int wrong = NONE;
        for (int m = tunnels.length - 1; m >= 0; m--) {
            if (!fits(Arrays.copyOfRange(row, m * many, m * many + many))) wrong = m;
        }
        if (what == 1) return wrong;
        if (wrong != NONE) return -100 - wrong;
        int changes = 0, low = 0;
        int[] above = new int[4];
        for (int k = 0; k < n; k++) {
            int more = row[k] - dueOf(k % many, k / many);
            if (more < 0) above[k % many]++;
            else low += more;
            if (k >= many && row[k] != row[k - many]) changes++;
        }
        if (what == 0) return changes + low;
        if (what == 2) return changes;
        if (what == 3) return Arrays.stream(above).sum();
        return known(what - 10) ? above[what - 10] : NONE;
    }

    /** All ways to sit in a mile with nobody above, in the order of rows. */
    private List<int[]> waysIn(int mile) {
        List<int[]> ways = new ArrayList<>();
        int many = people.size();
        int all = (int) Math.round(Math.pow(3, many));
        for (int way = 0; way < all; way++) {
            String digits = Integer.toString(all + way, 3).substring(1);
            int[] sitting = digits.chars().map(c -> c - '0').toArray();
            boolean above = false;
            for (int p = 0; p < many; p++) above |= sitting[p] < dueOf(p, mile);
            if (!above && fits(sitting)) ways.add(sitting);
        }
        return ways;
    }

    /** TROUBLE, and the row behind it; null if there is none. */
    private int[] easiest() {
        List<int[]> best = new ArrayList<>();
        best.add(new int[] {0});
        int many = people.size();
        for (int mile = 0; mile < tunnels.length; mile++) {
            List<int[]> next = new ArrayList<>();
            int[] due = new int[many];
            for (int p = 0; p < many; p++) due[p] = dueOf(p, mile);
            for (int[] sitting : waysIn(mile)) {
                int[] least = null;
                for (int[] till : best) {
                    int[] row = Arrays.copyOf(till, till.length + many);
                    for (int p = 0; p < many; p++) {
                        row[till.length + p] = sitting[p];
                        row[0] += sitting[p] - due[p];
                        if (mile > 0 && sitting[p] != till[till.length - many + p]) row[0]++;
                    }
                    // Trouble stands first in the row, so the order of rows is also that of trouble.
                    if (least == null || Arrays.compare(row, least) < 0) least = row;
                }
                if (least != null) next.add(least);
            }
            best = next;
        }
        return best.stream().min(Arrays::compare).orElse(null);
    }

    int ease(int k) {
        if (k < -1) return UNKNOWN;
        if (people.isEmpty()) return STATE;
        int[] found = easiest();
        return found == null || k + 1L >= found.length ? NONE : found[k + 1];
    }

    int stuck() {
        if (people.isEmpty()) return STATE;
        for (int mile = 0; mile < tunnels.length; mile++) {
            if (waysIn(mile).isEmpty()) return mile;
        }
        return NONE;
    }

    private int together(int a, int b) {
        int sum = 0;
        for (int mile = 0; mile < tunnels.length; mile++) sum += dueOf(a, mile) + dueOf(b, mile);
        return sum;
    }

    int help(int a, int b, int mile) {
        if (!known(a) || !known(b) || a == b) return UNKNOWN;
        if (!within(0, mile, tunnels.length - 1)) return OUTSIDE;
        int now = together(a, b);
        int[] were = talks.set(mile, new int[] {a, b});
        int then = together(a, b);
        talks.set(mile, were);
        return 1000 + now - then;
    }

    // ---- readings, odds

    int reading(int p, int mile, int c) {
        if (!known(p)) return UNKNOWN;
        if (!within(0, mile, tunnels.length) || !within(0, c, 2)) return OUTSIDE;
        if (readings.size() == 8) return FULL;
        readings.add(new int[] {p, mile, c});
        return readings.size() - 1;
    }

    int back(int k) {
        if (!within(0, k, readings.size())) return OUTSIDE;
        readings.subList(readings.size() - k, readings.size()).clear();
        return readings.size();
    }

    private List<Integer> possible(int p, int what, int many) {
        List<Integer> so = new ArrayList<>();
        int was = people.get(p)[what];
        for (int v = 0; v < many; v++) {
            people.get(p)[what] = v;
            if (readings.stream().allMatch(r -> dueOf(r[0], r[1]) == r[2])) so.add(v);
        }
        people.get(p)[what] = was;
        return so;
    }

    int began(int p, int what) {
        if (!known(p)) return UNKNOWN;
        if (!within(0, what, 1)) return OUTSIDE;
        List<Integer> so = possible(p, 1, 60);
        return what == 0 ? so.size() : so.isEmpty() ? NONE : so.get(0);
    }

    int kinds(int p) {
        return known(p) ? possible(p, 0, 3).stream().mapToInt(v -> 1 << v).sum() : UNKNOWN;
    }

    int fadings(int p) {
        return known(p) ? possible(p, 2, 10).stream().mapToInt(v -> 1 << v).sum() : UNKNOWN;
    }

    long odds(int p, int c, int which) {
        if (!known(p) || !within(0, c, 2) || !within(0, which, 1)) return LOST;
        boolean[] were = tunnels;
        int all = 1 << were.length;
        int in = 0;
        for (int way = 0; way < all; way++) {
            tunnels = new boolean[were.length];
            for (int mile = 0; mile < were.length; mile++) tunnels[mile] = (way & 1 << mile) != 0;
            if (dueOf(p, were.length) == c) in++;
        }
        tunnels = were;
        int divisor = java.math.BigInteger.valueOf(in).gcd(java.math.BigInteger.valueOf(all)).intValue();
        return (which == 0 ? in : all) / divisor;
    }

    // ---- telling

    private void leave(int... numbers) {
        for (int number : numbers) trace = trace * 31 + number;
    }

    int tell(int p) {
        if (!known(p)) return UNKNOWN;
        int[] who = people.get(p);
        if (who[0] == 0) leave(1);
        if (who[0] == 1) leave(2, 1);
        if (who[0] == 2) leave(3, 2, 1, 1);
        return who[0] == 0 ? who[2] : who[0] == 1 ? who[2] + 100 : 2 * who[2] + 100;
    }

    int call(int p) {
        if (!known(p)) return UNKNOWN;
        boolean own = people.get(p)[0] == 2;
        leave(own ? 5 : 4);
        return own ? 60 : p;
    }

    int as(int p, int kind) {
        fault = 0;
        if (!known(p)) return UNKNOWN;
        if (!within(0, kind, 2)) return OUTSIDE;
        return people.get(p)[0] >= kind ? 1 : failing(2);
    }

    int trace() {
        return trace;
    }

    int fault() {
        return fault;
    }

    int many(int what) {
        int[] all = {people.size(), tunnels.length, readings.size()};
        return within(0, what, 2) ? all[what] : OUTSIDE;
    }
}
