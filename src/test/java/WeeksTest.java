/** Promises 16 to 20: the rule, lots, weeks and their book. */
public final class WeeksTest {
    private static final Due DUE = new Due();

    public static void main(String[] args) {
        rules();
        lots();
        pots();
        fullBook();
        DUE.end();
    }

    private static void rules() {
        SlipWeeks x = new SlipWeeks();
        int[] least = {1, 0, 0, 0, 0, 0, 0, 0};
        int[] most = {99, 100, 100, 100, 100, 100, 999999, 99999999};
        int[] first = {1, 50, 60, 30, 10, 0, 0, 0};
        for (int what = 0; what < 8; what++) {
            String head = "rule(" + what + ", ";
            DUE.is(head + "least)", x.rule(what, least[what]), first[what]);
            DUE.is(head + "below)", x.rule(what, least[what] - 1), Due.BEYOND);
            DUE.is(head + "most)", x.rule(what, most[what]), least[what]);
            DUE.is(head + "above)", x.rule(what, most[what] + 1), Due.BEYOND);
            DUE.is(head + "MIN)", x.rule(what, Integer.MIN_VALUE), Due.BEYOND);
            DUE.is(head + "most) again", x.rule(what, most[what]), most[what]);
        }
        DUE.is("rule(8, 1)", x.rule(8, 1), Due.BEYOND);
        DUE.is("rule(-1, 1)", x.rule(-1, 1), Due.BEYOND);
        DUE.is("count(7)", x.count(7), 99999999);
    }

    private static void lots() {
        SlipWeeks x = new SlipWeeks();
        DUE.is("seed(7)", x.seed(7), 1);
        DUE.is("seed(1)", x.seed(1), 7);
        DUE.is("week()", x.week(), 588);
        int z = x.count(6);
        DUE.is("week()", x.week(), 2188);
        x.seed(z);
        DUE.is("week() by the same z", x.week(), 2188);
        int after = x.count(6);
        x.told(15);
        DUE.is("z behind told()", x.count(6), after);
        DUE.is("seed(-1000000002)", x.seed(-1000000002), after);
        DUE.is("count(6)", x.count(6), -1000000002);
        DUE.is("seed(0)", x.seed(0), -1000000002);
        DUE.is("status(-1)", x.status(-1), 0);
        // By hand: z 0 gives 12345, whose highest 16 bits are 0; then as long as it takes.
        int want = 0;
        int y = 0;
        while (Integer.bitCount(want) < 4) {
            y = y * 1103515245 + 12345;
            want |= 1 << (y >>> 16) % 12;
        }
        DUE.is("week() by z 0", x.week(), want);
        DUE.is("z behind it", x.count(6), y);
        DUE.is("book(4, 0)", x.book(4, 0), want);
    }

    private static void pots() {
        SlipWeeks x = new SlipWeeks();
        x.rule(0, 2);
        x.rule(1, 25);
        x.rule(7, 1001);
        x.buys(0, 3);
        x.buys(1, 5);
        // 0 1 2 3 and 0 1 2 4: rank 4 and 3 by the draw 0 1 2 3; IN is 16, 4 of it come to the pot.
        DUE.is("told(15)", x.told(15), 3);
        book(x, 0, 15, 3, 5, 0, 201, 60, 0, 1005 - 603 - 300);
        DUE.is("count(7)", x.count(7), 102);
        // By 0 1 5 6 both have rank 2: eight winners of 10 hundredths of 106.
        DUE.is("told(99)", x.told(0b1100011), 0);
        book(x, 1, 0b1100011, 0, 0, 8, 0, 0, 1, 98);
        DUE.is("told(3840)", x.told(3840), 0);
        book(x, 2, 3840, 0, 0, 0, 0, 0, 0, 102);
        x.rule(5, 100);
        x.rule(2, 100);
        x.rule(3, 100);
        DUE.is("told(15) of shares above 100", x.told(15), 3);
        book(x, 3, 15, 3, 5, 0, 35, 21, 0, 0);
        x.returned();
        x.rule(7, 99999999);
        DUE.is("told(15) with a full pot", x.told(15), 0);
        x.buys(494, 100);
        DUE.is("told(15) with more", x.told(15), 0);
        DUE.is("the pot is held at last", x.book(5, 7), 99999999);
        DUE.is("told(3840), of all that came", x.told(3840), 100);
        DUE.is("book(6, 4)", x.book(6, 4), (99999999 + 50) / 100);
        DUE.is("book(6, 7)", x.book(6, 7), 49);
        DUE.is("book(7, 0)", x.book(7, 0), Due.BEYOND);
        DUE.is("book(-1, 0)", x.book(-1, 0), Due.BEYOND);
        DUE.is("book(0, 8)", x.book(0, 8), Due.BEYOND);
        DUE.is("book(0, -1)", x.book(0, -1), Due.BEYOND);
        for (int no : new int[] {0, 14, 31, 4095, -15, 4096 + 14, 4096 + 15}) {
            DUE.is("told(" + no + ")", x.told(no), Due.BEYOND);
        }
        DUE.is("count(1)", x.count(1), 7);
        greatest();
        latest();
        oneWinner();
    }

    private static void oneWinner() {
        SlipWeeks x = new SlipWeeks();
        x.rule(7, 1000);
        x.buys(0, 1);
        DUE.is("told(15)", x.told(15), 1);
        book(x, 0, 15, 1, 0, 0, 600, 0, 0, 400);
        DUE.is("told(23)", x.told(23), 0);
        book(x, 1, 23, 0, 1, 0, 0, 120, 0, 280);
        DUE.is("told(51)", x.told(51), 0);
        book(x, 2, 51, 0, 0, 1, 0, 0, 28, 252);
        DUE.is("told(113)", x.told(113), 0);
        book(x, 3, 113, 0, 0, 0, 0, 0, 0, 252);
    }

    private static void book(SlipWeeks x, int week, int... want) {
        for (int what = 0; what < want.length; what++) {
            DUE.is("book(" + week + ", " + what + ")", x.book(week, what), want[what]);
        }
    }

    /** As many crosses, as dear, as can be: IN times PART is far above an int. */
    private static void greatest() {
        SlipWeeks x = new SlipWeeks();
        x.rule(0, 99);
        x.rule(1, 100);
        x.rule(2, 100);
        x.rule(7, 99999999);
        for (int i = 0; i < 40; i++) {
            for (int k = 0; k < 10; k++) {
                x.buys(i, 9999);
            }
            x.buys(i, 9);
        }
        DUE.is("count(2)", x.count(2), 40 * 99999);
        DUE.is("now()", x.now(), 99999999 + 40 * 99999 * 99);
        DUE.is("told(15)", x.told(15), 99999);
        DUE.is("book(0, 4)", x.book(0, 4), (99999999 + 40 * 99999 * 99) / 99999);
        DUE.is("book(0, 7)", x.book(0, 7), 0);
    }

    /** A week goes by the crosses as they were ahead of it. */
    private static void latest() {
        SlipWeeks x = new SlipWeeks();
        x.people(4, 4950);
        DUE.is("told(15) without a latest", x.told(15), 10);
        DUE.is("told(15) with one", x.told(15), x.crossed(0, 0));
        DUE.is("crossed(0, 0)", x.crossed(0, 0), 4950 * 13 / (495 + 3 * 4 * 165));
    }

    private static void fullBook() {
        SlipWeeks x = new SlipWeeks();
        x.people(3, 495);
        for (int i = 0; i < 40; i++) {
            DUE.is("week() is a row", Integer.bitCount(x.week()), 4);
        }
        int z = x.count(6);
        int pot = x.count(7);
        DUE.is("week(), the 41st", x.week(), Due.FULL);
        DUE.is("told(15), the 41st", x.told(15), Due.FULL);
        DUE.is("told(14), the 41st", x.told(14), Due.BEYOND);
        DUE.is("count(6)", x.count(6), z);
        DUE.is("count(7)", x.count(7), pot);
        DUE.is("count(1)", x.count(1), 40);
        DUE.is("book(39, 1)", x.book(39, 1), 1);
        DUE.is("book(39, 2)", x.book(39, 2), 32);
        DUE.is("book(39, 3)", x.book(39, 3), 168);
        DUE.is("book(40, 1)", x.book(40, 1), Due.BEYOND);
    }
}
