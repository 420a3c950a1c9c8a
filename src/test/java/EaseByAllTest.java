import java.util.Random;

/** EASE by its words: of small lines all rows there are, one after the other, each judged as a SEATING by the Model. */
public final class EaseByAllTest {
    private static final int LINES = 150, MOST_CELLS = 8, SHEET = 3, INTS = 2;

    private final Random random;
    private final Model model = new Model();
    private final RegretLine x = new RegretLine();

    private EaseByAllTest(int seed) {
        random = new Random(seed);
    }

    public static void main(String[] args) {
        for (int seed = 0; seed < LINES; seed++) {
            new EaseByAllTest(seed).go();
        }
        Check.finish("EaseByAllTest");
    }

    private void go() {
        int people = 1 + random.nextInt(4);
        int miles = 1 + random.nextInt(MOST_CELLS / people);
        String text = text(miles, people);
        tell(text);
        if (people > 1 && random.nextBoolean()) {
            int mile = random.nextInt(miles);
            x.talk(mile, 0, people - 1);
            model.talk(mile, 0, people - 1);
        }
        int[] easiest = easiest(miles * people);
        Check.due(text + ": ease(-1)", x.ease(-1), easiest == null ? RegretLine.NONE : easiest[0]);
        for (int k = 0; k < miles * people; k++) {
            Check.due(text + ": ease(" + k + ")", x.ease(k), easiest == null ? RegretLine.NONE : easiest[k + 1]);
        }
        Check.due(text + ": stuck if there is none", (x.stuck() == RegretLine.NONE) == (easiest != null));
    }

    private String text(int miles, int people) {
        StringBuilder text = new StringBuilder("r");
        int fewest = random.nextInt(3);
        for (int c = 0; c < 3; c++) {
            text.append(fewest + random.nextInt(5 - fewest));
        }
        text.append(';');
        for (int m = 0; m < miles; m++) {
            text.append(random.nextBoolean() ? '-' : 'u');
        }
        for (int p = 0; p < people; p++) {
            // Around the LIMITS, so that CLASSES change on the way.
            int regret = (random.nextBoolean() ? 15 : 33) + random.nextInt(11);
            text.append(',').append("pwh".charAt(random.nextInt(3))).append(regret).append(random.nextInt(10));
        }
        return text.toString();
    }

    private void tell(String text) {
        Check.take(x, text);
        model.sheet(0, 0, text.length());
        for (int i = 0; i < text.length(); i++) {
            model.put(0, i, text.charAt(i));
        }
        model.line(0, 0, 0, text.length());
    }

    /** The least TROUBLE and behind it the first row that has it; null if there is none. */
    private int[] easiest(int cells) {
        int[] found = null;
        int rows = (int) Math.round(Math.pow(3, cells));
        model.sheet(SHEET, INTS, cells);
        for (int row = 0; row < rows; row++) {
            int rest = row;
            for (int k = cells - 1; k >= 0; k--) {
                model.put(SHEET, k, rest % 3);
                rest /= 3;
            }
            boolean canBe = model.seating(SHEET, INTS, 0, cells, 1) == RegretLine.NONE
                && model.seating(SHEET, INTS, 0, cells, 3) == 0;
            int trouble = canBe ? model.seating(SHEET, INTS, 0, cells, 0) : Integer.MAX_VALUE;
            if (canBe && (found == null || trouble < found[0])) {
                found = new int[cells + 1];
                found[0] = trouble;
                for (int k = 0; k < cells; k++) {
                    found[k + 1] = (int) model.cell(SHEET, k, INTS);
                }
            }
        }
        return found;
    }
}
