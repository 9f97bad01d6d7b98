/** Promises 2 to 11: rows, people, what they like and cross, what is bought by hand. */
public final class PeopleTest {
    private static final Due DUE = new Due();

    public static void main(String[] args) {
        places();
        peopleAndMany();
        kinds();
        likings();
        crosses();
        bought();
        DUE.end();
    }

    private static void places() {
        SlipWeeks x = new SlipWeeks();
        int last = 0;
        for (int p = 0; p < 495; p++) {
            int row = x.row(p);
            DUE.is("bits of row(" + p + ")", Integer.bitCount(row), 4);
            DUE.is("row(" + p + ") above the one ahead", row > last && row < 4096 ? 1 : 0, 1);
            DUE.is("place(" + row + ")", new SlipWeeks().place(row), p);
            last = row;
        }
        x = new SlipWeeks();
        for (int row : new int[] {0, 7, 31, 4095, -1, 4096 + 15, 4096 + 7, 15 - 4096, Integer.MIN_VALUE, 0xf0000000}) {
            DUE.is("place(" + row + ")", x.place(row), Due.BEYOND);
        }
        for (int p : new int[] {-1, 495, Integer.MAX_VALUE, Integer.MIN_VALUE}) {
            DUE.is("row(" + p + ")", x.row(p), Due.BEYOND);
        }
        DUE.is("status(0)", x.status(0), 14);
    }

    private static void peopleAndMany() {
        SlipWeeks x = new SlipWeeks();
        DUE.is("people(-1, 1)", x.people(-1, 1), Due.BEYOND);
        DUE.is("people(8, 1)", x.people(8, 1), Due.BEYOND);
        DUE.is("people(0, -1)", x.people(0, -1), Due.BEYOND);
        DUE.is("people(0, 100000)", x.people(0, 100000), Due.BEYOND);
        for (int i = 0; i < 12; i++) {
            DUE.is("people(" + i % 8 + ", ..)", x.people(i % 8, i == 0 ? 99999 : i), i);
        }
        DUE.is("people(0, 0), the 13th", x.people(0, 0), Due.FULL);
        DUE.is("people(8, 0), the 13th", x.people(8, 0), Due.BEYOND);
        DUE.is("count(0)", x.count(0), 12);
        DUE.is("of(0, 1)", x.of(0, 1), 99999);
        DUE.is("of(11, 0)", x.of(11, 0), 3);
        DUE.is("of(11, 1)", x.of(11, 1), 11);
        DUE.is("of(12, 0)", x.of(12, 0), Due.BEYOND);
        DUE.is("of(-1, 0)", x.of(-1, 0), Due.BEYOND);
        DUE.is("of(0, 2)", x.of(0, 2), Due.BEYOND);
        DUE.is("of(0, -1)", x.of(0, -1), Due.BEYOND);
        DUE.is("many(3, 0)", x.many(3, 0), 3);
        DUE.is("many(3, 99999)", x.many(3, 99999), 0);
        DUE.is("many(3, 100000)", x.many(3, 100000), Due.BEYOND);
        DUE.is("many(3, -1)", x.many(3, -1), Due.BEYOND);
        DUE.is("many(12, 1)", x.many(12, 1), Due.BEYOND);
        DUE.is("many(-1, 1)", x.many(-1, 1), Due.BEYOND);
        DUE.is("of(3, 1)", x.of(3, 1), 99999);
        DUE.is("as(11, 3)", x.as(11, 3), 11);
        DUE.is("likes(11, 494)", x.likes(11, 494), 1);
        x.many(11, 99000);
        DUE.is("crossed(11, 494)", x.crossed(11, 494), 200);
        int all = 0;
        for (int p = 0; p < 12; p++) {
            all += x.crossed(p, 494);
        }
        DUE.is("crossed(-1, 494)", x.crossed(-1, 494), all);
    }

    private static void kinds() {
        String[] under = {"0", "01", "02", "03", "04", "015", "036", "0367"};
        SlipWeeks x = new SlipWeeks();
        for (int k = 0; k < 8; k++) {
            x.people(k, 10 + k);
        }
        for (int p = 0; p < 8; p++) {
            for (int k = 0; k < 8; k++) {
                boolean is = under[p].indexOf('0' + k) >= 0;
                DUE.is("as(" + p + ", " + k + ")", x.as(p, k), is ? 10 + p : Due.KIND);
            }
        }
        DUE.is("as(8, 0)", x.as(8, 0), Due.BEYOND);
        DUE.is("as(-1, 0)", x.as(-1, 0), Due.BEYOND);
        DUE.is("as(0, 8)", x.as(0, 8), Due.BEYOND);
        DUE.is("as(0, -1)", x.as(0, -1), Due.BEYOND);
    }

    private static int bits(int a, int b, int c, int d) {
        return 1 << a | 1 << b | 1 << c | 1 << d;
    }

    private static void likings() {
        SlipWeeks x = new SlipWeeks();
        for (int k = 0; k < 8; k++) {
            x.people(k, k == 7 ? 200 : 100);
        }
        likeAll(x, bits(0, 1, 2, 3), 1, 9, 21, 1, 1, 9, 1, 1);
        likeAll(x, bits(4, 5, 6, 7), 1, 5, 21, 1, 1, 10, 1, 1);
        likeAll(x, bits(8, 9, 10, 11), 1, 1, 21, 1, 1, 1, 5, 0);
        likeAll(x, bits(0, 4, 8, 9), 1, 5, 11, 1, 1, 5, 3, 3);
        likeAll(x, bits(3, 7, 10, 11), 1, 3, 11, 1, 1, 6, 3, 0);
        likeAll(x, bits(2, 3, 4, 7), 1, 7, 1, 1, 1, 14, 1, 1);
        x.told(bits(4, 5, 6, 11));
        likeAll(x, bits(4, 5, 6, 7), 1, 5, 21, 1, 10, 10, 1, 1);
        likeAll(x, bits(0, 1, 2, 3), 1, 9, 21, 1, 1, 9, 1, 1);
        Due.liking(x, "30");
        likeAll(x, bits(4, 5, 6, 7), 30, 34, 50, 1, 39, 68, 1, 1);
        DUE.is("likes(8, 0)", x.likes(8, 0), Due.BEYOND);
        DUE.is("likes(-1, 0)", x.likes(-1, 0), Due.BEYOND);
        DUE.is("likes(0, 495)", x.likes(0, 495), Due.BEYOND);
        DUE.is("likes(0, -1)", x.likes(0, -1), Due.BEYOND);
        x.many(7, 300);
        DUE.is("likes(7, 299)", x.likes(7, 299), 1 + Integer.bitCount(x.row(299) >> 8));
        DUE.is("likes(7, 300)", x.likes(7, 300), 0);
    }

    private static void likeAll(SlipWeeks x, int row, int... want) {
        int place = x.place(row);
        for (int p = 0; p < want.length; p++) {
            DUE.is("likes(" + p + ", place of " + row + ")", x.likes(p, place), want[p]);
        }
    }

    private static void crosses() {
        SlipWeeks x = new SlipWeeks();
        DUE.is("crossed(-1, 0) without people", x.crossed(-1, 0), 0);
        x.people(3, 989);
        DUE.is("989 machines cut", x.crossed(0, 494), 1);
        x.many(0, 990);
        DUE.is("990 machines", x.crossed(0, 494), 2);
        x.people(7, 1);
        DUE.is("one that bought place 0", x.crossed(1, 0), 1);
        DUE.is("beside the machines", x.crossed(-1, 0), 3);
        DUE.is("and no other", x.crossed(1, 1), 0);
        x.many(1, 0);
        DUE.is("none that likes none", x.crossed(1, 0), 0);
        x.people(6, 99999);
        // SOUGHT likes all rows together 495 times 1 and, of 8 to 11, 4 times 165.
        DUE.is("99999 that seek, 8 9 10 11", x.crossed(2, 494), 99999 * 5 / (495 + 660));
        DUE.is("99999 that seek, 0 1 2 3", x.crossed(2, 0), 99999 / 1155);
        x.buys(494, 50);
        DUE.is("all together", x.crossed(-1, 494), 2 + 432 + 50);
        DUE.is("by people alone", x.crossed(2, 494), 432);
        Due.liking(x, "0");
        x.people(0, 500);
        DUE.is("crossed of what likes nothing", x.crossed(3, 7), 0);
        DUE.is("crossed(-2, 0)", x.crossed(-2, 0), Due.BEYOND);
        DUE.is("crossed(4, 0)", x.crossed(4, 0), Due.BEYOND);
        DUE.is("crossed(-1, 495)", x.crossed(-1, 495), Due.BEYOND);
        DUE.is("crossed(0, -1)", x.crossed(0, -1), Due.BEYOND);
        int sought = 0;
        int[] rowsOf = {70, 224, 168, 32, 1};
        for (int k = 0; k < 5; k++) {
            sought += rowsOf[k] * (99999 * (1 + k) / 1155);
        }
        DUE.is("count(2)", x.count(2), 990 + sought + 50);
    }

    private static void bought() {
        SlipWeeks x = new SlipWeeks();
        DUE.is("buys(-1, 1)", x.buys(-1, 1), Due.BEYOND);
        DUE.is("buys(495, 1)", x.buys(495, 1), Due.BEYOND);
        DUE.is("buys(0, 0)", x.buys(0, 0), Due.BEYOND);
        DUE.is("buys(0, 10000)", x.buys(0, 10000), Due.BEYOND);
        DUE.is("buys(0, -5)", x.buys(0, -5), Due.BEYOND);
        for (int i = 1; i <= 10; i++) {
            DUE.is("buys(3, 9999)", x.buys(3, 9999), 9999 * i);
        }
        DUE.is("buys(3, 10)", x.buys(3, 10), Due.FULL);
        DUE.is("buys(3, 9)", x.buys(3, 9), 99999);
        DUE.is("buys(3, 1)", x.buys(3, 1), Due.FULL);
        for (int i = 1; i < 40; i++) {
            DUE.is("buys of a new row", x.buys(494 - i, i), i);
        }
        DUE.is("count(3)", x.count(3), 40);
        DUE.is("buys of the 41st row", x.buys(494, 1), Due.FULL);
        DUE.is("buys of one of the forty", x.buys(493, 1), 2);
        DUE.is("crossed(-1, 493)", x.crossed(-1, 493), 2);
        DUE.is("count(2)", x.count(2), 99999 + 780 + 1);
        DUE.is("returned()", x.returned(), 99999 + 780 + 1);
        DUE.is("returned() again", x.returned(), 0);
        DUE.is("count(3)", x.count(3), 0);
        DUE.is("crossed(-1, 3)", x.crossed(-1, 3), 0);
        DUE.is("buys(494, 1)", x.buys(494, 1), 1);
        DUE.is("buys(3, 7), as if never", x.buys(3, 7), 7);
        DUE.is("status(1)", x.status(1), 3);
    }
}
