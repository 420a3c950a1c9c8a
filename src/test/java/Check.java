/** What the tests share: counting answers that are not as due, and telling TEXTS and rows to a SHEET. */
final class Check {
    private static int right = 0;
    private static int wrong = 0;

    private Check() {
    }

    static void due(String call, long got, long want) {
        if (got == want) {
            right++;
            return;
        }
        wrong++;
        System.out.println(call + " answered " + got + ", due is " + want);
    }

    static void due(String call, boolean holds) {
        due(call, holds ? 1 : 0, 1);
    }

    static void finish(String name) {
        System.out.println(name + ": " + right + " answers as due, " + wrong + " not");
        if (wrong != 0 || right == 0) {
            System.exit(1);
        }
    }

    static void row(RegretLine x, int sheet, int lane, int... cells) {
        x.sheet(sheet, lane, cells.length);
        for (int i = 0; i < cells.length; i++) {
            x.put(sheet, i, cells[i]);
        }
    }

    static int take(RegretLine x, String text) {
        row(x, 0, 0, text.chars().toArray());
        return x.line(0, 0, 0, text.length());
    }

    static RegretLine on(String text) {
        RegretLine x = new RegretLine();
        if (take(x, text) < 1) {
            due("line of " + text, false);
        }
        return x;
    }

    static void rowOfEase(RegretLine x, String name, int trouble, int... row) {
        due(name + ": ease(-1)", x.ease(-1), trouble);
        for (int k = 0; k < row.length; k++) {
            due(name + ": ease(" + k + ")", x.ease(k), row[k]);
        }
        due(name + ": behind the row", x.ease(row.length), RegretLine.NONE);
    }
}
