import java.util.Random;

/** Runs of calls by chance (the same ones each time) on the class and on the Model: all answers are alike. */
public final class ModelTest {
    private static final int RUNS = 400, CALLS = 512;
    private static final int[] EDGES = {Integer.MIN_VALUE, -9, -2, -1, 59, 60, 61, Integer.MAX_VALUE};

    private final Random random;
    private final RegretLine x = new RegretLine();
    private final Model model = new Model();
    private final String run;
    private int calls = 0;

    private ModelTest(int seed) {
        random = new Random(seed);
        run = "run " + seed + ": ";
    }

    public static void main(String[] args) {
        for (int seed = 0; seed < RUNS; seed++) {
            new ModelTest(seed).go();
        }
        Check.finish("ModelTest");
    }

    private void go() {
        while (calls < CALLS - 100) {
            if (calls == 0 ? random.nextInt(4) > 0 : random.nextInt(60) == 0) {
                tellText();
            } else if (random.nextInt(25) == 0) {
                tellSeating();
            } else if (random.nextInt(60) == 0) {
                readTrue();
            } else {
                anyCall();
            }
        }
        wholeEase();
    }

    private void same(String call, long got, long want) {
        calls++;
        Check.due(run + call, got, want);
    }

    private int near(int bound) {
        int dice = random.nextInt(40);
        return dice == 0 ? EDGES[random.nextInt(EDGES.length)] : dice < 4 ? random.nextInt(bound + 3) - 1
            : random.nextInt(Math.max(1, bound));
    }

    private String text() {
        StringBuilder text = new StringBuilder("r");
        boolean roomy = random.nextInt(3) > 0;
        for (int c = 0; c < 3; c++) text.append(roomy ? 2 + random.nextInt(3) : random.nextInt(5));
        text.append(';');
        int miles = 1 + random.nextInt(8);
        for (int m = 0; m < miles; m++) text.append(random.nextBoolean() ? '-' : 'u');
        int people = 1 + random.nextInt(4);
        for (int p = 0; p < people; p++) {
            text.append(',').append("pwh".charAt(random.nextInt(3)));
            text.append(random.nextInt(6)).append(random.nextInt(10)).append(random.nextInt(10));
        }
        if (random.nextInt(4) == 0) {
            int place = random.nextInt(text.length());
            char code = "rpwhu-;,0123456789x".charAt(random.nextInt(19));
            switch (random.nextInt(4)) {
                case 0 -> text.setCharAt(place, code);
                case 1 -> text.insert(place, code);
                case 2 -> text.deleteCharAt(place);
                default -> text.setLength(place);
            }
        }
        return text.toString();
    }

    private void tellRow(int k, int lane, int[] cells, int from) {
        int n = Math.min(60, cells.length + from);
        same("sheet", x.sheet(k, lane, n), model.sheet(k, lane, n));
        for (int i = from; i < n; i++) {
            same("put", x.put(k, i, cells[i - from]), model.put(k, i, cells[i - from]));
        }
    }

    private void tellText() {
        int k = random.nextInt(4), lane = random.nextInt(3), from = random.nextInt(5);
        String text = text();
        tellRow(k, lane, text.chars().toArray(), from);
        same("line of " + text, x.line(k, lane, from, text.length()), model.line(k, lane, from, text.length()));
    }

    private void tellSeating() {
        int k = random.nextInt(4), lane = random.nextInt(3);
        int n = model.many(0) * model.many(1);
        int[] row = new int[n];
        boolean byEase = n > 0 && random.nextBoolean() && model.ease(-1) >= 0;
        for (int i = 0; i < n; i++) {
            row[i] = byEase && random.nextInt(8) > 0 ? x.ease(i) : random.nextInt(30) == 0 ? 3 : random.nextInt(3);
        }
        calls += byEase ? n : 0;
        tellRow(k, lane, row, 0);
        for (int what : new int[] {0, 1, 2, 3, 10, 11, 12, 13}) {
            same("seating", x.seating(k, lane, 0, n, what), model.seating(k, lane, 0, n, what));
        }
    }

    /** A READING that holds, so that the sets by READINGS aren't empty mostly. */
    private void readTrue() {
        if (model.many(0) == 0) return;
        int p = random.nextInt(model.many(0)), mile = random.nextInt(model.many(1) + 1);
        int c = model.due(p, mile);
        same("reading", x.reading(p, mile, c), model.reading(p, mile, c));
        for (int q = 0; q < model.many(0); q++) {
            same("began 0", x.began(q, 0), model.began(q, 0));
            same("began 1", x.began(q, 1), model.began(q, 1));
            same("kinds", x.kinds(q), model.kinds(q));
            same("fadings", x.fadings(q), model.fadings(q));
        }
    }

    private void wholeEase() {
        same("stuck", x.stuck(), model.stuck());
        for (int k = -1; k <= model.many(0) * model.many(1); k++) {
            same("ease " + k, x.ease(k), model.ease(k));
        }
    }

    private void anyCall() {
        int p = near(model.many(0)), q = near(model.many(0)), mile = near(model.many(1)), c = near(3);
        int k = near(4), other = near(4), lane = near(3), i = near(10), j = near(10), n = near(10);
        switch (random.nextInt(29)) {
            case 0 -> same("line", x.line(k, lane, i, n), model.line(k, lane, i, n));
            case 1 -> same("ofPassenger", x.ofPassenger(p, c), model.ofPassenger(p, c));
            case 2 -> {
                int v = near(5);
                same("seats", x.seats(c, v), model.seats(c, v));
            }
            case 3 -> {
                int a = near(70), b = near(100);
                same("limits", x.limits(a, b), model.limits(a, b));
            }
            case 4 -> {
                boolean is = random.nextBoolean();
                same("dig", x.dig(mile, is), model.dig(mile, is));
            }
            case 5 -> same("talk", x.talk(mile, p, q), model.talk(mile, p, q));
            case 6 -> same("talk", x.talk(mile, -9, -9), model.talk(mile, -9, -9));
            case 7 -> same("regret", x.regret(p, mile), model.regret(p, mile));
            case 8 -> same("due", x.due(p, mile), model.due(p, mile));
            case 9 -> {
                int what = random.nextBoolean() ? near(4) : 10 + near(4);
                same("seating", x.seating(k, lane, i, n, what), model.seating(k, lane, i, n, what));
            }
            case 10 -> {
                int place = near(33) - 1;
                same("ease", x.ease(place), model.ease(place));
            }
            case 11 -> same("stuck", x.stuck(), model.stuck());
            case 12 -> same("help", x.help(p, q, mile), model.help(p, q, mile));
            case 13 -> same("reading", x.reading(p, mile, c), model.reading(p, mile, c));
            case 14 -> same("back", x.back(i), model.back(i));
            case 15 -> same("began", x.began(p, c), model.began(p, c));
            case 16 -> same("kinds", x.kinds(p), model.kinds(p));
            case 17 -> same("fadings", x.fadings(p), model.fadings(p));
            case 18 -> same("odds", x.odds(p, c, lane), model.odds(p, c, lane));
            case 19 -> same("sheet", x.sheet(k, lane, n), model.sheet(k, lane, n));
            case 20 -> same("lose", x.lose(k), model.lose(k));
            case 21 -> {
                int v = random.nextBoolean() ? random.nextInt() : near(100);
                same("put", x.put(k, i, v), model.put(k, i, v));
            }
            case 22 -> same("cell", x.cell(k, i, lane), model.cell(k, i, lane));
            case 23 -> same("copy", x.copy(k, i, other, j, n), model.copy(k, i, other, j, n));
            case 24 -> same("tell", x.tell(p), model.tell(p));
            case 25 -> same("call", x.call(p), model.call(p));
            case 26 -> same("as", x.as(p, c), model.as(p, c));
            case 27 -> same("trace", x.trace(), model.trace());
            default -> same("many", x.many(c), model.many(c));
        }
        same("fault", x.fault(), model.fault());
    }
}
