import java.util.Arrays;

/**
 * Second class for regrets: a line of miles and tunnels, passengers whose regrets fade and rise on
 * it, and the classes in which they are to sit by them.
 */
public final class RegretLine {
    public static final int UNKNOWN = -1, OUTSIDE = -2, STATE = -3, FULL = -4, NONE = -9;
    public static final long LOST = Long.MIN_VALUE;

    private static final int NO_FAULT = 0, NULL = 1, CAST = 2, INDEX = 3, SIZE = 4;
    private static final int SHEETS = 4, CELLS = 60, LANES = 3;
    private static final int BYTES = 0, SHORTS = 1, NOTHING = -1;
    private static final int CLASSES = 3, MOST_SEATS = 4;
    private static final int MOST_MILES = 8, MOST_PASSENGERS = 4, MOST_READINGS = 8;
    private static final int PASSENGER = 0, WIDOW = 1, HONEYMOONER = 2, KINDS = 3;
    private static final int BEGINNINGS = 60, FADES = 10, MOST_REGRET = 99;
    private static final int WHOLE = -1;
    private static final int HEAD = 5, PASSENGER_CODES = 5;

    private final Sheet[] sheets;
    private final Train train;
    private final Train guess;
    private final Readings readings;
    private final Seating told;
    private final Ease least;
    private boolean leastKnown;
    private int traced;
    private int lastFault;

    public RegretLine() {
        sheets = new Sheet[SHEETS];
        for (int k = 0; k < SHEETS; k++) {
            sheets[k] = new Sheet();
        }
        train = new Train();
        guess = new Train();
        readings = new Readings();
        told = new Seating(train);
        least = new Ease(train);
        leastKnown = false;
        traced = 0;
        lastFault = NO_FAULT;
    }

    // ---- 1 the line

    public int line(int sheet, int lane, int i, int n) {
        lastFault = NO_FAULT;
        if (noSheet(sheet)) {
            return UNKNOWN;
        }
        if (noLane(lane)) {
            return OUTSIDE;
        }
        lastFault = sheets[sheet].faultOfCells(lane, i, n);
        if (lastFault != NO_FAULT) {
            return -10 - lastFault;
        }
        int[] cells = sheets[sheet].cells;
        int firstFault = Text.firstFault(cells, i, n);
        if (firstFault != WHOLE) {
            return -100 - firstFault;
        }
        train.readFrom(cells, i, n);
        readings.count = 0;
        rideAnew();
        return train.passengers;
    }

    public int ofPassenger(int p, int what) {
        if (noPassenger(p)) {
            return UNKNOWN;
        }
        switch (what) {
            case 0:
                return train.kind[p];
            case 1:
                return train.first[p];
            case 2:
                return train.fades[p];
            default:
                return OUTSIDE;
        }
    }

    public int seats(int place, int v) {
        if (noLine()) {
            return STATE;
        }
        if (noClass(place) || v < 0 || v > MOST_SEATS) {
            return OUTSIDE;
        }
        int till = train.seatsOf[place];
        train.seatsOf[place] = v;
        leastKnown = false;
        return till;
    }

    public int limits(int a, int b) {
        if (noLine()) {
            return STATE;
        }
        if (a < 0 || a > b || b > MOST_REGRET) {
            return OUTSIDE;
        }
        int till = 100 * train.firstLimit + train.secondLimit;
        train.firstLimit = a;
        train.secondLimit = b;
        leastKnown = false;
        return till;
    }

    public int dig(int mile, boolean is) {
        if (noLine()) {
            return STATE;
        }
        if (noMile(mile)) {
            return OUTSIDE;
        }
        if (train.tunnel[mile] == is) {
            return 0;
        }
        train.tunnel[mile] = is;
        rideAnew();
        return 1;
    }

    public int talk(int mile, int a, int b) {
        if (noLine()) {
            return STATE;
        }
        if (noMile(mile)) {
            return OUTSIDE;
        }
        boolean nobody = a == NONE && b == NONE;
        if (!nobody && noPair(a, b)) {
            return UNKNOWN;
        }
        int till = train.talker[mile] == NONE ? NONE : 10 * train.talker[mile] + train.listener[mile];
        train.talker[mile] = a;
        train.listener[mile] = b;
        rideAnew();
        return till;
    }

    public int regret(int p, int mile) {
        if (noPassenger(p)) {
            return UNKNOWN;
        }
        return noMileNorEnd(mile) ? OUTSIDE : train.regretAhead(p, mile);
    }

    public int due(int p, int mile) {
        if (noPassenger(p)) {
            return UNKNOWN;
        }
        return noMileNorEnd(mile) ? OUTSIDE : train.classDue(p, mile);
    }

    // ---- 2 seatings

    public int seating(int sheet, int lane, int i, int n, int what) {
        lastFault = NO_FAULT;
        if (noSheet(sheet)) {
            return UNKNOWN;
        }
        if (noLane(lane) || noQuestionOfSeating(what)) {
            return OUTSIDE;
        }
        lastFault = sheets[sheet].faultOfCells(lane, i, n);
        if (lastFault != NO_FAULT) {
            return -10 - lastFault;
        }
        if (noLine()) {
            return STATE;
        }
        if (n != train.miles * train.passengers || !told.readFrom(sheets[sheet].cells, i)) {
            return OUTSIDE;
        }
        return ofSeating(what);
    }

    private static boolean noQuestionOfSeating(int what) {
        boolean ofAll = what >= 0 && what <= 3;
        boolean ofOne = what >= 10 && what < 10 + MOST_PASSENGERS;
        return !ofAll && !ofOne;
    }

    private int ofSeating(int what) {
        int firstWrong = told.firstWrong();
        if (what == 1) {
            return firstWrong;
        }
        if (firstWrong != NONE) {
            return -100 - firstWrong;
        }
        switch (what) {
            case 0:
                return told.countChanges() + told.countLow();
            case 2:
                return told.countChanges();
            case 3:
                return told.countAbove();
            default:
                return noPassenger(what - 10) ? NONE : told.milesAbove(what - 10);
        }
    }

    // ---- 3 ease, help

    public int ease(int k) {
        if (k < -1) {
            return UNKNOWN;
        }
        if (noLine()) {
            return STATE;
        }
        knowLeast();
        if (k == -1 || least.trouble == NONE) {
            return least.trouble;
        }
        return k < train.miles * train.passengers ? least.row[k] : NONE;
    }

    public int stuck() {
        if (noLine()) {
            return STATE;
        }
        knowLeast();
        return least.stuckIn;
    }

    public int help(int a, int b, int mile) {
        if (noPair(a, b)) {
            return UNKNOWN;
        }
        if (noMile(mile)) {
            return OUTSIDE;
        }
        guess.becomeLike(train);
        guess.talker[mile] = a;
        guess.listener[mile] = b;
        guess.rideFrom(mile);
        int now = train.dueTogether(a) + train.dueTogether(b);
        int then = guess.dueTogether(a) + guess.dueTogether(b);
        return now - then + 1000;
    }

    // The row of EASE is asked cell by cell: it is sought once for all of them.
    private void knowLeast() {
        if (!leastKnown) {
            least.seek();
            leastKnown = true;
        }
    }

    // ---- 4 who was due where

    public int reading(int p, int mile, int c) {
        if (noPassenger(p)) {
            return UNKNOWN;
        }
        if (noMileNorEnd(mile) || noClass(c)) {
            return OUTSIDE;
        }
        return readings.count >= MOST_READINGS ? FULL : readings.keep(p, mile, c);
    }

    public int back(int k) {
        if (k < 0 || k > readings.count) {
            return OUTSIDE;
        }
        readings.count -= k;
        return readings.count;
    }

    public int began(int p, int what) {
        if (noPassenger(p)) {
            return UNKNOWN;
        }
        if (what < 0 || what > 1) {
            return OUTSIDE;
        }
        int count = 0;
        int lowest = NONE;
        guess.becomeLike(train);
        for (int first = 0; first < BEGINNINGS; first++) {
            guess.first[p] = first;
            if (guessIsSo()) {
                lowest = count == 0 ? first : lowest;
                count++;
            }
        }
        return what == 0 ? count : lowest;
    }

    public int kinds(int p) {
        if (noPassenger(p)) {
            return UNKNOWN;
        }
        int set = 0;
        guess.becomeLike(train);
        for (int kind = 0; kind < KINDS; kind++) {
            guess.kind[p] = kind;
            if (guessIsSo()) {
                set |= 1 << kind;
            }
        }
        return set;
    }

    public int fadings(int p) {
        if (noPassenger(p)) {
            return UNKNOWN;
        }
        int set = 0;
        guess.becomeLike(train);
        for (int fades = 0; fades < FADES; fades++) {
            guess.fades[p] = fades;
            if (guessIsSo()) {
                set |= 1 << fades;
            }
        }
        return set;
    }

    private boolean guessIsSo() {
        guess.rideAll();
        return readings.areSo(guess);
    }

    public long odds(int p, int c, int which) {
        if (noPassenger(p) || noClass(c) || which < 0 || which > 1) {
            return LOST;
        }
        int upper = waysToBeDue(p, c);
        int lower = 1 << train.miles;
        // The lower number is a power of 2, so nothing but 2 can divide both.
        while (lower > 1 && upper % 2 == 0) {
            upper /= 2;
            lower /= 2;
        }
        return which == 0 ? upper : lower;
    }

    /** In how many of all ways to dig the MILES one would be DUE in a CLASS behind the last one. */
    private int waysToBeDue(int p, int c) {
        int count = 0;
        int ways = 1 << train.miles;
        guess.becomeLike(train);
        for (int way = 0; way < ways; way++) {
            guess.digAndRide(way);
            if (guess.classDue(p, guess.miles) == c) {
                count++;
            }
        }
        return count;
    }

    // ---- 5 sheets, parts

    public int sheet(int k, int lane, int n) {
        lastFault = NO_FAULT;
        if (noSheet(k)) {
            return UNKNOWN;
        }
        if (noLane(lane) || n > CELLS) {
            return OUTSIDE;
        }
        if (n < 0) {
            return comeTo(SIZE);
        }
        sheets[k].renew(lane, n);
        return 1;
    }

    public int lose(int k) {
        if (noSheet(k)) {
            return UNKNOWN;
        }
        int had = sheets[k].hasNothing() ? 0 : 1;
        sheets[k].lane = NOTHING;
        return had;
    }

    public int put(int k, int i, int v) {
        lastFault = NO_FAULT;
        if (noSheet(k)) {
            return UNKNOWN;
        }
        Sheet row = sheets[k];
        if (row.hasNothing()) {
            return comeTo(NULL);
        }
        if (row.noCell(i)) {
            return comeTo(INDEX);
        }
        row.cells[i] = row.cut(v);
        return 1;
    }

    public long cell(int k, int i, int lane) {
        lastFault = NO_FAULT;
        if (noSheet(k) || noLane(lane)) {
            return LOST;
        }
        Sheet row = sheets[k];
        lastFault = row.faultOfRow(lane);
        if (lastFault == NO_FAULT && row.noCell(i)) {
            lastFault = INDEX;
        }
        return lastFault == NO_FAULT ? row.cells[i] : LOST;
    }

    public int copy(int k, int i, int other, int j, int n) {
        lastFault = NO_FAULT;
        if (noSheet(k) || noSheet(other)) {
            return UNKNOWN;
        }
        Sheet from = sheets[k];
        Sheet to = sheets[other];
        if (from.hasNothing() || to.hasNothing()) {
            return comeTo(NULL);
        }
        if (from.lane != to.lane) {
            return comeTo(CAST);
        }
        if (n < 0 || from.lacksCells(i, n) || to.lacksCells(j, n)) {
            return comeTo(INDEX);
        }
        System.arraycopy(from.cells, i, to.cells, j, n);
        return n;
    }

    public int tell(int p) {
        if (noPassenger(p)) {
            return UNKNOWN;
        }
        switch (train.kind[p]) {
            case HONEYMOONER:
                return tellHoneymooner(p);
            case WIDOW:
                return tellWidow(p);
            default:
                return tellPassenger(p);
        }
    }

    private int tellPassenger(int p) {
        leaveTrace(1);
        return train.fades[p];
    }

    private int tellWidow(int p) {
        leaveTrace(2);
        return tellPassenger(p) + 100;
    }

    private int tellHoneymooner(int p) {
        leaveTrace(3);
        int byWidow = tellWidow(p);
        return byWidow + tellPassenger(p);
    }

    public int call(int p) {
        if (noPassenger(p)) {
            return UNKNOWN;
        }
        if (train.kind[p] == HONEYMOONER) {
            leaveTrace(5);
            return 60;
        }
        leaveTrace(4);
        return p;
    }

    private void leaveTrace(int number) {
        traced = 31 * traced + number;
    }

    public int as(int p, int kind) {
        lastFault = NO_FAULT;
        if (noPassenger(p)) {
            return UNKNOWN;
        }
        if (kind < 0 || kind >= KINDS) {
            return OUTSIDE;
        }
        // Each kind is also all those that are numbered below it.
        return train.kind[p] < kind ? comeTo(CAST) : 1;
    }

    public int trace() {
        return traced;
    }

    public int fault() {
        return lastFault;
    }

    public int many(int what) {
        switch (what) {
            case 0:
                return train.passengers;
            case 1:
                return train.miles;
            case 2:
                return readings.count;
            default:
                return OUTSIDE;
        }
    }

    // ---- what the calls share

    private int comeTo(int fault) {
        lastFault = fault;
        return -10 - fault;
    }

    private void rideAnew() {
        train.rideAll();
        leastKnown = false;
    }

    private boolean noLine() {
        return train.miles == 0;
    }

    private boolean noPassenger(int p) {
        return p < 0 || p >= train.passengers;
    }

    private boolean noPair(int a, int b) {
        return noPassenger(a) || noPassenger(b) || a == b;
    }

    private boolean noMile(int mile) {
        return mile < 0 || mile >= train.miles;
    }

    private boolean noMileNorEnd(int mile) {
        return mile < 0 || mile > train.miles;
    }

    private static boolean noClass(int c) {
        return c < 0 || c >= CLASSES;
    }

    private static boolean noSheet(int k) {
        return k < 0 || k >= SHEETS;
    }

    private static boolean noLane(int lane) {
        return lane < 0 || lane >= LANES;
    }

    /** A SHEET: its cells stand from the start, so that a new row makes no new array. */
    private static final class Sheet {
        final int[] cells = new int[CELLS];
        int lane = NOTHING;
        int size = 0;

        void renew(int newLane, int newSize) {
            lane = newLane;
            size = newSize;
            Arrays.fill(cells, 0);
        }

        boolean hasNothing() {
            return lane == NOTHING;
        }

        boolean noCell(int i) {
            return i < 0 || i >= size;
        }

        /** Whether n cells (0 or more) from i on are not all there. */
        boolean lacksCells(int i, int n) {
            return i < 0 || i > size || n > size - i;
        }

        int cut(int v) {
            if (lane == BYTES) {
                return (byte) v;
            }
            return lane == SHORTS ? (short) v : v;
        }

        int faultOfRow(int takenAs) {
            if (hasNothing()) {
                return NULL;
            }
            return lane == takenAs ? NO_FAULT : CAST;
        }

        int faultOfCells(int takenAs, int i, int n) {
            int ofRow = faultOfRow(takenAs);
            if (ofRow != NO_FAULT) {
                return ofRow;
            }
            if (n < 0) {
                return SIZE;
            }
            return lacksCells(i, n) ? INDEX : NO_FAULT;
        }
    }

    /** The rules of a TEXT. */
    private static final class Text {

        /** The FIRST FAULT of the n codes from i on, all of which are there; WHOLE. */
        static int firstFault(int[] cells, int i, int n) {
            int at = 0;
            for (; at < HEAD; at++) {
                if (at >= n || !fitsHead(at, cells[i + at])) {
                    return at;
                }
            }
            while (at < HEAD + MOST_MILES && at < n && isMile(cells[i + at])) {
                at++;
            }
            if (at == HEAD) {
                return at;
            }
            for (int p = 0; p < MOST_PASSENGERS && (p == 0 || at < n); p++) {
                for (int part = 0; part < PASSENGER_CODES; part++) {
                    if (at >= n || !fitsPassenger(part, cells[i + at])) {
                        return at;
                    }
                    at++;
                }
            }
            return at < n ? at : WHOLE;
        }

        private static boolean fitsHead(int place, int code) {
            switch (place) {
                case 0:
                    return code == 'r';
                case HEAD - 1:
                    return code == ';';
                default:
                    return isDigit(code, MOST_SEATS);
            }
        }

        private static boolean isMile(int code) {
            return code == '-' || code == 'u';
        }

        private static boolean fitsPassenger(int part, int code) {
            switch (part) {
                case 0:
                    return code == ',';
                case 1:
                    return kindOf(code) != NONE;
                case 2:
                    return isDigit(code, 5);
                default:
                    return isDigit(code, 9);
            }
        }

        private static boolean isDigit(int code, int highest) {
            return code >= '0' && code <= '0' + highest;
        }

        static int kindOf(int letter) {
            switch (letter) {
                case 'p':
                    return PASSENGER;
                case 'w':
                    return WIDOW;
                case 'h':
                    return HONEYMOONER;
                default:
                    return NONE;
            }
        }
    }

    /** A LINE with its PASSENGERS, and what they regret on it: the one there is, or a guess. */
    private static final class Train {
        final int[] seatsOf = new int[CLASSES];
        final boolean[] tunnel = new boolean[MOST_MILES];
        final int[] talker = new int[MOST_MILES];
        final int[] listener = new int[MOST_MILES];
        final int[] kind = new int[MOST_PASSENGERS];
        final int[] first = new int[MOST_PASSENGERS];
        final int[] fades = new int[MOST_PASSENGERS];
        final int[][] regrets = new int[MOST_MILES + 1][MOST_PASSENGERS];
        int miles = 0;
        int passengers = 0;
        int firstLimit = 0;
        int secondLimit = 0;

        /** Takes a TEXT that is WHOLE. */
        void readFrom(int[] cells, int i, int n) {
            for (int c = 0; c < CLASSES; c++) {
                seatsOf[c] = cells[i + 1 + c] - '0';
            }
            int at = i + HEAD;
            miles = 0;
            while (miles < MOST_MILES && cells[at] != ',') {
                tunnel[miles] = cells[at] == 'u';
                miles++;
                at++;
            }
            passengers = (i + n - at) / PASSENGER_CODES;
            for (int p = 0; p < passengers; p++) {
                kind[p] = Text.kindOf(cells[at + 1]);
                first[p] = 10 * (cells[at + 2] - '0') + cells[at + 3] - '0';
                fades[p] = cells[at + 4] - '0';
                at += PASSENGER_CODES;
            }
            firstLimit = 20;
            secondLimit = 40;
            Arrays.fill(talker, NONE);
            Arrays.fill(listener, NONE);
        }

        void becomeLike(Train other) {
            miles = other.miles;
            passengers = other.passengers;
            firstLimit = other.firstLimit;
            secondLimit = other.secondLimit;
            for (int mile = 0; mile < miles; mile++) {
                tunnel[mile] = other.tunnel[mile];
                talker[mile] = other.talker[mile];
                listener[mile] = other.listener[mile];
            }
            for (int p = 0; p < passengers; p++) {
                kind[p] = other.kind[p];
                first[p] = other.first[p];
                fades[p] = other.fades[p];
            }
            for (int mile = 0; mile <= miles; mile++) {
                System.arraycopy(other.regrets[mile], 0, regrets[mile], 0, passengers);
            }
        }

        void rideAll() {
            System.arraycopy(first, 0, regrets[0], 0, passengers);
            rideFrom(0);
        }

        /** Finds the REGRETS behind a MILE and all that follow, by those ahead of it. */
        void rideFrom(int from) {
            for (int mile = from; mile < miles; mile++) {
                rideThrough(mile);
            }
        }

        // The last MILE has bit 0: from one number to the next mostly the last MILES change, and
        // what is ahead of them need not be ridden again.
        void digAndRide(int tunnels) {
            int from = miles;
            for (int mile = miles - 1; mile >= 0; mile--) {
                boolean is = (tunnels >> (miles - 1 - mile) & 1) == 1;
                if (tunnel[mile] != is) {
                    tunnel[mile] = is;
                    from = mile;
                }
            }
            rideFrom(from);
        }

        void rideThrough(int mile) {
            int[] behind = regrets[mile + 1];
            for (int p = 0; p < passengers; p++) {
                behind[p] = regretBehind(p, mile);
            }
            int a = talker[mile];
            int b = listener[mile];
            if (a != NONE && b != NONE) {
                int half = (behind[a] + behind[b]) / 2;
                behind[a] = half;
                behind[b] = half;
            }
        }

        private int regretBehind(int p, int mile) {
            int ahead = regrets[mile][p];
            if (tunnel[mile]) {
                return Math.min(MOST_REGRET, ahead + (kind[p] == HONEYMOONER ? 10 : 5));
            }
            int less = kind[p] == WIDOW ? Math.max(0, fades[p] - 1) : fades[p];
            return Math.max(0, ahead - less);
        }

        int regretAhead(int p, int mile) {
            return regrets[mile][p];
        }

        int classDue(int p, int mile) {
            int ahead = regrets[mile][p];
            if (ahead < firstLimit) {
                return 0;
            }
            return ahead < secondLimit ? 1 : 2;
        }

        int dueTogether(int p) {
            int sum = 0;
            for (int mile = 0; mile < miles; mile++) {
                sum += classDue(p, mile);
            }
            return sum;
        }
    }

    /** A SEATING on a Train, as a SHEET told it. */
    private static final class Seating {
        private final Train train;
        private final int[] row = new int[MOST_MILES * MOST_PASSENGERS];
        private final int[] sitting = new int[CLASSES];

        Seating(Train train) {
            this.train = train;
        }

        /** Takes the cells from i on, all of which are there: false, if one is no CLASS. */
        boolean readFrom(int[] cells, int i) {
            int count = train.miles * train.passengers;
            for (int k = 0; k < count; k++) {
                if (noClass(cells[i + k])) {
                    return false;
                }
                row[k] = cells[i + k];
            }
            return true;
        }

        private int classOf(int p, int mile) {
            return row[mile * train.passengers + p];
        }

        int firstWrong() {
            for (int mile = 0; mile < train.miles; mile++) {
                Arrays.fill(sitting, 0);
                for (int p = 0; p < train.passengers; p++) {
                    int c = classOf(p, mile);
                    sitting[c]++;
                    if (sitting[c] > train.seatsOf[c]) {
                        return mile;
                    }
                }
            }
            return NONE;
        }

        int countChanges() {
            int count = 0;
            for (int mile = 1; mile < train.miles; mile++) {
                for (int p = 0; p < train.passengers; p++) {
                    if (classOf(p, mile) != classOf(p, mile - 1)) {
                        count++;
                    }
                }
            }
            return count;
        }

        int countLow() {
            int count = 0;
            for (int mile = 0; mile < train.miles; mile++) {
                for (int p = 0; p < train.passengers; p++) {
                    count += Math.max(0, classOf(p, mile) - train.classDue(p, mile));
                }
            }
            return count;
        }

        int countAbove() {
            int count = 0;
            for (int p = 0; p < train.passengers; p++) {
                count += milesAbove(p);
            }
            return count;
        }

        int milesAbove(int p) {
            int count = 0;
            for (int mile = 0; mile < train.miles; mile++) {
                if (classOf(p, mile) < train.classDue(p, mile)) {
                    count++;
                }
            }
            return count;
        }
    }

    /**
     * EASE and STUCK of a Train. How all sit in a MILE is a number to the base 3 with PASSENGER 0 as
     * its highest digit, so that the least number is also the first as a row.
     */
    private static final class Ease {
        private static final int MOST_WAYS = 81;
        // Far above the TROUBLE of any SEATING.
        private static final int NEVER = 10000;

        private final Train train;
        private final int[][] toGo = new int[MOST_MILES][MOST_WAYS];
        private final int[] behind = new int[MOST_WAYS];
        private final int[] sitting = new int[CLASSES];
        private int ways = 1;
        final int[] row = new int[MOST_MILES * MOST_PASSENGERS];
        int trouble = NONE;
        int stuckIn = NONE;

        Ease(Train train) {
            this.train = train;
        }

        void seek() {
            ways = 1;
            for (int p = 0; p < train.passengers; p++) {
                ways *= CLASSES;
            }
            stuckIn = NONE;
            trouble = NONE;
            Arrays.fill(behind, 0);
            for (int mile = train.miles - 1; mile >= 0; mile--) {
                if (!weigh(mile)) {
                    stuckIn = mile;
                }
                lookBack(mile);
            }
            if (stuckIn == NONE) {
                choose();
            }
        }

        /** The least TROUBLE from a MILE on, by how all sit in it: false, if they can't in any way. */
        private boolean weigh(int mile) {
            boolean any = false;
            for (int way = 0; way < ways; way++) {
                int low = lowIn(mile, way);
                any = any || low < NEVER;
                toGo[mile][way] = Math.min(NEVER, low + behind[way]);
            }
            return any;
        }

        private int lowIn(int mile, int way) {
            int low = 0;
            int rest = way;
            Arrays.fill(sitting, 0);
            for (int p = train.passengers - 1; p >= 0; p--) {
                int c = rest % CLASSES;
                rest /= CLASSES;
                sitting[c]++;
                int lower = c - train.classDue(p, mile);
                if (lower < 0 || sitting[c] > train.seatsOf[c]) {
                    return NEVER;
                }
                low += lower;
            }
            return low;
        }

        // What a MILE costs the one ahead of it, CHANGES included: each PASSENGER changes or not
        // whatever the others do, so one digit after the other may be let change.
        private void lookBack(int mile) {
            System.arraycopy(toGo[mile], 0, behind, 0, ways);
            for (int unit = 1; unit < ways; unit *= CLASSES) {
                for (int way = 0; way < ways; way++) {
                    if (way / unit % CLASSES == 0) {
                        letChange(way, way + unit, way + 2 * unit);
                    }
                }
            }
        }

        private void letChange(int a, int b, int c) {
            int changed = Math.min(behind[a], Math.min(behind[b], behind[c])) + 1;
            behind[a] = Math.min(behind[a], changed);
            behind[b] = Math.min(behind[b], changed);
            behind[c] = Math.min(behind[c], changed);
        }

        private void choose() {
            int before = firstOfLeast(0, NONE);
            trouble = toGo[0][before];
            write(0, before);
            for (int mile = 1; mile < train.miles; mile++) {
                before = firstOfLeast(mile, before);
                write(mile, before);
            }
        }

        private int firstOfLeast(int mile, int before) {
            int best = 0;
            int bestCost = 2 * NEVER;
            for (int way = 0; way < ways; way++) {
                int cost = toGo[mile][way] + (before == NONE ? 0 : changesBetween(before, way));
                if (cost < bestCost) {
                    best = way;
                    bestCost = cost;
                }
            }
            return best;
        }

        private static int changesBetween(int before, int way) {
            int count = 0;
            int a = before;
            int b = way;
            for (int p = 0; p < MOST_PASSENGERS; p++) {
                if (a % CLASSES != b % CLASSES) {
                    count++;
                }
                a /= CLASSES;
                b /= CLASSES;
            }
            return count;
        }

        private void write(int mile, int way) {
            int rest = way;
            for (int p = train.passengers - 1; p >= 0; p--) {
                row[mile * train.passengers + p] = rest % CLASSES;
                rest /= CLASSES;
            }
        }
    }

    /** READINGS: in which MILE who was DUE in which CLASS. */
    private static final class Readings {
        private final int[] who = new int[MOST_READINGS];
        private final int[] where = new int[MOST_READINGS];
        private final int[] seen = new int[MOST_READINGS];
        int count = 0;

        /** Keeps one more, for which there is room. */
        int keep(int p, int mile, int c) {
            who[count] = p;
            where[count] = mile;
            seen[count] = c;
            count++;
            return count - 1;
        }

        boolean areSo(Train ridden) {
            for (int k = 0; k < count; k++) {
                if (ridden.classDue(who[k], where[k]) != seen[k]) {
                    return false;
                }
            }
            return true;
        }
    }
}
