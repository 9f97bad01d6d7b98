/** Sentences of section 3 and of promises 16 to 20: the rule, lots, weeks, the book. */
final class WeekSentences {
    private static final int MIN = Integer.MIN_VALUE;
    private static final int MAX = Integer.MAX_VALUE;
    private final Sentences s;

    WeekSentences(Sentences s) {
        this.s = s;
    }

    void run() {
        theRule();
        sharesAboveHundred();
        incoming();
        winners();
        potBounds();
        taxOfNothingHere();
        lots();
        theBook();
        rule();
        seed();
        week();
        told();
        book();
    }

    private void theRule() {
        s.of("Terms 3", "THE RULE: PRICE (what 0; 1 to 99, 1 at first), PART (1; 0 to 100, 50: hundredths of what is paid in "
            + "that come to THE POT), SHARE of RANK 4 (2; 0 to 100, 60), of RANK 3 (3; 0 to 100, 30), of RANK 2 (4; 0 to 100, 10), "
            + "TAX (5; 0 to 100, 0: hundredths of what one gets above FREE), FREE (6; 0 to 999999, 0), POT (7; 0 to 99999999, 0).");
        int[] least = {1, 0, 0, 0, 0, 0, 0, 0};
        int[] most = {99, 100, 100, 100, 100, 100, 999999, 99999999};
        int[] first = {1, 50, 60, 30, 10, 0, 0, 0};
        SlipWeeks x = new SlipWeeks();
        for (int what = 0; what < 8; what++) {
            s.is("rule(" + what + ", least), at first", x.rule(what, least[what]), first[what]);
            s.is("rule(" + what + ", most)", x.rule(what, most[what]), least[what]);
            s.is("rule(" + what + ", next to the most)", x.rule(what, most[what] - 1), most[what]);
            s.is("rule(" + what + ", next to the least)", x.rule(what, least[what] + 1), most[what] - 1);
        }
        s.is("status(-1)", x.status(-1), 0);
    }

    /** Rows 0 1 2 3 and 0 1 2 4 and 8 9 10 11, so often; what is paid in does not come to the pot. */
    private static SlipWeeks three(int first, int second, int last) {
        SlipWeeks x = new SlipWeeks();
        x.rule(1, 0);
        int[] often = {first, second, last};
        int[] places = {0, 1, 494};
        for (int i = 0; i < 3; i++) {
            if (often[i] > 0) {
                x.buys(places[i], often[i]);
            }
        }
        return x;
    }

    private void weekOf(SlipWeeks x, int draw, int... want) {
        int w = x.count(1);
        s.is("told(" + draw + ")", x.told(draw), want[0]);
        s.is("book(" + w + ", 0)", x.book(w, 0), draw);
        for (int i = 0; i < want.length; i++) {
            s.is("book(" + w + ", " + (1 + i) + ")", x.book(w, 1 + i), want[i]);
        }
        s.is("count(7)", x.count(7), want[6]);
    }

    private void sharesAboveHundred() {
        s.of("Terms 3", "SHARES together may be above 100.");
        SlipWeeks x = three(1, 1, 0);
        x.rule(2, 100);
        x.rule(3, 100);
        x.rule(4, 100);
        x.rule(7, 1000);
        weekOf(x, 15, 1, 1, 0, 1000, 1000, 0, 0);
        s.is("status(-1)", x.status(-1), 0);
    }

    private void incoming() {
        s.of("Terms 3", "A WEEK by a DRAW: IN is all CROSSED times PRICE; THE POT is more by IN times PART by 100; "
            + "each RANK of 4, 3, 2 has its SHARE hundredths of that POT (each of the whole); "
            + "WINNERS of a RANK: CROSSED of all ROWS of that RANK by the DRAW.");
        for (int part : new int[] {0, 1, 50, 99, 100}) {
            for (int n : new int[] {1, 100, 101}) {
                SlipWeeks x = new SlipWeeks();
                x.rule(1, part);
                x.rule(0, 99);
                x.buys(494, n);
                x.told(15);
                s.is(n + " crosses at 99, hundredths " + part, x.count(7), n * 99 * part / 100);
            }
        }
        // Of all crosses together a hundredth is cut, not of each: 3 of 30.
        SlipWeeks x = three(0, 0, 3);
        x.rule(1, 33);
        x.told(15);
        s.is("33 hundredths of 3", x.count(7), 0);
        x.buys(494, 1);
        x.told(15);
        s.is("33 hundredths of 4", x.count(7), 1);
        x = new SlipWeeks();
        x.people(3, 495 * 2);
        x.rule(1, 0);
        x.rule(7, 100000);
        // 2 of each row: 2, 64 and 336 winners.
        weekOf(x, 15, 2, 64, 336, 30000, 468, 29, 100000 - 60000 - 468 * 64 - 29 * 336);
        x = three(1, 1, 1);
        x.rule(7, 1000);
        weekOf(x, 15, 1, 1, 0, 600, 300, 0, 100);
        weekOf(x, 3840, 1, 0, 0, 60, 0, 0, 40);
        // 0 1 4 5: rank 2 with the first, 3 with the second.
        weekOf(x, RowSentences.bits(0, 1, 4, 5), 0, 1, 1, 0, 12, 4, 24);
        weekOf(x, RowSentences.bits(0, 5, 6, 8), 0, 0, 0, 0, 0, 0, 24);
    }

    private void winners() {
        s.of("Terms 3", "If there are some, each GETS its part of that by how many they are; else nobody does.");
        SlipWeeks x = three(7, 0, 0);
        x.rule(7, 1000);
        weekOf(x, 15, 7, 0, 0, 600 / 7, 0, 0, 1000 - 85 * 7);
        x = three(100, 0, 0);
        x.rule(7, 165);
        // 99 by 100 winners: nobody gets anything, and it stays.
        weekOf(x, 15, 100, 0, 0, 0, 0, 0, 165);
        x.rule(7, 167);
        weekOf(x, 15, 100, 0, 0, 1, 0, 0, 67);
        x = new SlipWeeks();
        x.rule(7, 1000);
        weekOf(x, 15, 0, 0, 0, 0, 0, 0, 1000);
        x = three(1, 0, 0);
        x.rule(7, 1000);
        x.rule(2, 0);
        weekOf(x, 15, 1, 0, 0, 0, 0, 0, 1000);
    }

    private void potBounds() {
        s.of("Terms 3", "THE POT is less by what WINNERS GET (0 at least; 99999999 at most, at last).");
        SlipWeeks x = three(1, 0, 0);
        x.rule(2, 100);
        x.rule(7, 77);
        weekOf(x, 15, 1, 0, 0, 77, 0, 0, 0);
        x = three(1, 1, 0);
        x.rule(2, 100);
        x.rule(3, 1);
        x.rule(7, 100);
        weekOf(x, 15, 1, 1, 0, 100, 1, 0, 0);
        x.rule(2, 99);
        x.rule(7, 100);
        weekOf(x, 15, 1, 1, 0, 99, 1, 0, 0);
        x.rule(2, 98);
        x.rule(7, 100);
        weekOf(x, 15, 1, 1, 0, 98, 1, 0, 1);
        x = new SlipWeeks();
        x.rule(1, 100);
        x.rule(7, 99999998);
        x.buys(494, 1);
        weekOf(x, 15, 0, 0, 0, 0, 0, 0, 99999999);
        weekOf(x, 15, 0, 0, 0, 0, 0, 0, 99999999);
        // Held at last only: the winner has its hundredths of 100000000, and what is left is not held.
        x.rule(2, 1);
        weekOf(x, 3840, 1, 0, 0, 1000000, 0, 0, 99000000);
        x.rule(7, 99999999);
        x.rule(2, 0);
        weekOf(x, 3840, 1, 0, 0, 0, 0, 0, 99999999);
        greatest();
    }

    /** As much as can be paid in: 40 rows, each 99999 times, at 99, and all people. */
    private void greatest() {
        SlipWeeks x = new SlipWeeks();
        x.rule(0, 99);
        x.rule(1, 100);
        x.rule(2, 100);
        x.rule(7, 99999999);
        for (int i = 0; i < 40; i++) {
            for (int k = 0; k < 10; k++) {
                x.buys(494 - i, 9999);
            }
            x.buys(494 - i, 9);
        }
        Due.liking(x, "(d-3?1:0)");
        x.told(15);
        s.is("the pot is held", x.count(7), 99999999);
        for (int i = 0; i < 12; i++) {
            x.people(0, 99999);
        }
        s.is("count(2)", x.count(2), 52 * 99999);
        int pot = 99999999 + 52 * 99999 * 99;
        s.is("now()", x.now(), pot);
        x.rule(3, 0);
        x.rule(4, 0);
        int[] winners = new int[5];
        for (int i = 0; i < 40; i++) {
            winners[Integer.bitCount(new SlipWeeks().row(494 - i) & 3840)] += 99999;
        }
        weekOf(x, 3840, winners[4], winners[3], winners[2], pot / 99999, 0, 0, pot % 99999);
    }

    private void taxOfNothingHere() {
        s.of("Terms 3", "TAX changes only what a cross is worth.");
        SlipWeeks x = three(1, 1, 0);
        x.rule(5, 100);
        x.rule(6, 0);
        x.rule(7, 1000);
        s.is("now()", x.now(), 1000);
        weekOf(x, 15, 1, 1, 0, 600, 300, 0, 100);
        s.is("worth(494), all taxed", x.worth(494), 0);
    }

    /** A draw by lots in longs: the draw above, the z behind it below. */
    private static long lots(int z) {
        long at = z & 0xffffffffL;
        int draw = 0;
        while (Integer.bitCount(draw) < 4) {
            at = (at * 1103515245L + 12345L) % 4294967296L;
            draw |= 1 << (int) (at / 65536 % 12);
        }
        return (long) draw << 32 | at;
    }

    private void lots() {
        s.of("Terms 3", "A DRAW by LOTS: z is told (1 at first); each lot makes it z times 1103515245 and 12345 more "
            + "(an int that goes round), and is the rest of its highest 16 bits by 12; lots are drawn till there are four unlike NUMBERS.");
        // 1 goes to 1103527590, whose highest 16 bits are 16838: the lot is 2.
        SlipWeeks x = new SlipWeeks();
        s.is("count(6)", x.count(6), 1);
        s.is("week()", x.week(), 588);
        int[] seeds = {0, 1, -1, 2, 7, 12345, MIN, MAX, MIN + 1, 1 << 16, -(1 << 16), 1103515245};
        for (int i = 0; i < 39; i++) {
            int z = i < seeds.length ? seeds[i] : i * 77777777;
            x.seed(z);
            long want = lots(z);
            s.is("week() by " + z, x.week(), want >> 32);
            s.is("z behind it", x.count(6), (int) want);
        }
    }

    private void theBook() {
        s.of("Terms 3", "THE BOOK keeps WEEKS 0, 1, .. (at most 40): DRAW, WINNERS and what each GOT by RANKS, THE POT behind it.");
        SlipWeeks x = three(1, 0, 0);
        x.rule(7, 1000000);
        int pot = 1000000;
        int[] after = new int[40];
        for (int i = 0; i < 40; i++) {
            s.is("told, week " + i, x.told(i % 4 == 0 ? 15 : 3840), i % 4 == 0 ? 1 : 0);
            pot -= i % 4 == 0 ? pot * 60 / 100 : 0;
            after[i] = pot;
        }
        s.is("told(15), the 41st", x.told(15), Due.FULL);
        for (int i = 0; i < 40; i++) {
            s.is("book(" + i + ", 0)", x.book(i, 0), i % 4 == 0 ? 15 : 3840);
            s.is("book(" + i + ", 1)", x.book(i, 1), i % 4 == 0 ? 1 : 0);
            s.is("book(" + i + ", 4)", x.book(i, 4), i % 4 == 0 ? (i == 0 ? 1000000 : after[i - 1]) * 60 / 100 : 0);
            s.is("book(" + i + ", 7)", x.book(i, 7), after[i]);
        }
    }

    private void rule() {
        s.of("Promise 16", "Part what (0 to 7) of THE RULE becomes v: what it was.");
        SlipWeeks x = new SlipWeeks();
        for (int what = 0; what < 8; what++) {
            x.rule(what, 20 + what);
        }
        for (int what = 0; what < 8; what++) {
            s.is("rule(" + what + ", 50)", x.rule(what, 50), 20 + what);
        }
        s.is("count(7)", x.count(7), 50);
        s.of("Promise 16", "BEYOND.");
        int[] least = {1, 0, 0, 0, 0, 0, 0, 0};
        int[] most = {99, 100, 100, 100, 100, 100, 999999, 99999999};
        for (int what = 0; what < 8; what++) {
            for (int v : new int[] {least[what] - 1, most[what] + 1, MIN, MAX}) {
                s.refused(Looks::settled, Due.BEYOND, "rule", what, v);
            }
        }
        for (int what : new int[] {-1, 8, MIN, MAX}) {
            s.refused(Looks::settled, Due.BEYOND, "rule", what, 1);
        }
    }

    private void seed() {
        s.of("Promise 17", "z becomes v: what it was.");
        SlipWeeks x = new SlipWeeks();
        int was = 1;
        for (int v : new int[] {0, -1, MIN, MAX, (int) Due.BEYOND, (int) Due.SIZE, 5}) {
            s.is("seed(" + v + ")", x.seed(v), was);
            s.is("count(6)", x.count(6), v);
            was = v;
        }
        s.is("status(-1)", x.status(-1), 0);
        s.is("count(1)", x.count(1), 0);
    }

    private void week() {
        s.of("Promise 18", "A WEEK by LOTS: its DRAW.");
        SlipWeeks x = three(0, 0, 1);
        x.rule(7, 1000);
        s.is("week() of 2 3 6 9", x.week(), 588);
        s.is("book(0, 0)", x.book(0, 0), 588);
        s.is("week() of 2 3 7 11", x.week(), 2188);
        s.is("count(1)", x.count(1), 2);
        s.is("count(7)", x.count(7), 1000);
        s.of("Promise 18", "FULL.");
        s.refused(Looks::fullOfWeeks, Due.FULL, "week");
        SlipWeeks y = new SlipWeeks();
        for (int i = 0; i < 40; i++) {
            s.is("week " + i, Integer.bitCount(y.week()), 4);
        }
        s.is("week 40", y.week(), Due.FULL);
    }

    private void told() {
        s.of("Promise 19", "A WEEK by a told DRAW (z stays): WINNERS of RANK 4.");
        SlipWeeks x = three(5, 9, 0);
        x.seed(77);
        s.is("told(15)", x.told(15), 5);
        s.is("told(23)", x.told(23), 9);
        s.is("told(3840)", x.told(3840), 0);
        s.is("count(6)", x.count(6), 77);
        s.is("count(1)", x.count(1), 3);
        s.of("Promise 19", "BEYOND: no ROW.");
        for (int row : new int[] {0, 7, 31, 4095, 4096 + 7, 4096 + 15, MIN + 15, -1, -15, MAX}) {
            s.refused(Looks::settled, Due.BEYOND, "told", row);
        }
        s.of("Promise 19", "FULL.");
        s.refused(Looks::fullOfWeeks, Due.FULL, "told", 15);
        SlipWeeks y = new SlipWeeks();
        for (int i = 0; i < 40; i++) {
            s.is("told, week " + i, y.told(15), 0);
        }
        s.is("told, week 40", y.told(15), Due.FULL);
    }

    private void book() {
        s.of("Promise 20", "Of a WEEK: what 0 DRAW, 1 WINNERS of RANK 4, 2 of 3, 3 of 2, 4 what each of RANK 4 GOT, "
            + "5 of 3, 6 of 2, 7 THE POT behind it.");
        SlipWeeks x = new SlipWeeks();
        x.rule(1, 0);
        x.rule(7, 10000);
        x.buys(0, 2);
        x.buys(1, 3);
        x.buys(x.place(RowSentences.bits(0, 1, 4, 5)), 4);
        weekOf(x, 15, 2, 3, 4, 3000, 1000, 250, 0);
        s.of("Promise 20", "BEYOND.");
        for (int week : new int[] {-1, 2, 39, 40, MIN, MAX}) {
            s.refused(Looks::settled, Due.BEYOND, "book", week, 0);
        }
        for (int what : new int[] {-1, 8, MIN, MAX}) {
            s.refused(Looks::settled, Due.BEYOND, "book", 0, what);
        }
        s.refused(SlipWeeks::new, Due.BEYOND, "book", 0, 0);
        s.refused(Looks::fullOfWeeks, Due.BEYOND, "book", 40, 7);
    }
}
