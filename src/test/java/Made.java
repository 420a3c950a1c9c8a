/** Objects on which the tests of the bounds call, each made the same way whenever it is asked for. */
final class Made {
    private Made() {
    }

    /** A new object with a row of each LANE and one SHEET that has nothing; no LINE. */
    static RegretLine withoutLine() {
        RegretLine x = new RegretLine();
        Check.row(x, 0, 0, "r12;".chars().toArray());
        Check.row(x, 1, 1, 0, 1, 2, 300);
        Check.row(x, 2, 2, 2, 1, 0, 70000, -1);
        return x;
    }

    /** Two on two MILES, with all set otherwise than a TEXT sets it; the same SHEETS. */
    static RegretLine two() {
        RegretLine x = withoutLine();
        Check.row(x, 0, 0, "r123;-u,p305,h500".chars().toArray());
        x.line(0, 0, 0, 17);
        x.seats(1, 3);
        x.limits(25, 45);
        x.dig(0, true);
        x.talk(1, 1, 0);
        x.reading(0, 2, 1);
        x.reading(1, 0, 2);
        x.tell(1);
        return x;
    }

    /** As many of all as there can be: four on eight MILES, eight READINGS. */
    static RegretLine most() {
        RegretLine x = new RegretLine();
        Check.take(x, "r444;-u-u-u-u,p351,w417,h129,p583");
        x.talk(7, 3, 0);
        for (int k = 0; k < 8; k++) {
            x.reading(k % 4, k, x.due(k % 4, k));
        }
        x.call(2);
        return x;
    }

    /** One on one MILE. */
    static RegretLine least() {
        return Check.on("r100;-,p000");
    }
}
