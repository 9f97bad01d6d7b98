/** Promises 21 to 28: what a cross is worth, houses, seekers. */
public final class WorthTest {
    private static final Due DUE = new Due();

    public static void main(String[] args) {
        nows();
        worths();
        taxes();
        best();
        alone();
        lines();
        houses();
        seekers();
        wrong();
        DUE.end();
    }

    private static void nows() {
        SlipWeeks x = new SlipWeeks();
        x.rule(7, 99999999);
        DUE.is("now()", x.now(), 99999999);
        x.buys(0, 101);
        DUE.is("now(), above what a pot may be", x.now(), 99999999 + 50);
        DUE.is("the pot is as it was", x.count(7), 99999999);
        x.rule(0, 3);
        x.rule(1, 33);
        x.rule(7, 10);
        DUE.is("now()", x.now(), 10 + 303 * 33 / 100);
        DUE.is("count(1)", x.count(1), 0);
    }

    private static void worths() {
        SlipWeeks x = new SlipWeeks();
        x.rule(7, 10000);
        // Alone: 1 draw of rank 4, 32 of rank 3, 168 of rank 2.
        DUE.is("worth(77)", x.worth(77), (6000 + 32 * 3000 + 168 * 1000) / 495);
        x.rule(1, 0);
        x.buys(0, 1);
        // 0 1 2 3 is crossed: at its own place all gains are shared with one other.
        DUE.is("worth(0)", x.worth(0), (3000 + 32 * 1500 + 168 * 500) / 495);
        // 8 9 10 11 shares with it where both have rank 2: 6 times 6 draws.
        DUE.is("worth(494)", x.worth(494), (6000 + 32 * 3000 + 132 * 1000 + 36 * 500) / 495);
        x.rule(1, 50);
        x.rule(0, 20);
        DUE.is("worth(494), with IN", x.worth(494),
            (6006 + 32 * 3003 + 132 * 1001 + 36 * 500) / 495);
        x.rule(2, 0);
        x.rule(3, 0);
        x.rule(4, 0);
        DUE.is("worth(494) of no shares", x.worth(494), 0);
        x.rule(2, 100);
        x.rule(7, 99999999);
        x.rule(3, 100);
        x.rule(4, 100);
        x.returned();
        DUE.is("worth(1) of the greatest pot", x.worth(1), (int) (201L * 99999999 / 495));
    }

    private static void taxes() {
        SlipWeeks x = new SlipWeeks();
        x.rule(7, 1000);
        x.rule(2, 100);
        x.rule(3, 0);
        x.rule(4, 0);
        x.rule(7, 100000);
        DUE.is("worth(0)", x.worth(0), 100000 / 495);
        x.rule(5, 33);
        DUE.is("worth(0) with tax", x.worth(0), (100000 - 33000) / 495);
        x.rule(6, 99998);
        DUE.is("worth(0) with free", x.worth(0), 100000 / 495);
        x.rule(5, 100);
        x.rule(6, 40000);
        DUE.is("worth(0) taxed whole above free", x.worth(0), 40000 / 495);
        x.rule(6, 999999);
        DUE.is("worth(0) all free", x.worth(0), 100000 / 495);
        // Of each draw the tax is cut: of 9, of which 8 are free, 99 hundredths of 1 are nothing.
        x.rule(2, 0);
        x.rule(4, 100);
        x.rule(7, 9);
        x.rule(6, 8);
        x.rule(5, 99);
        DUE.is("worth(0), tax cut", x.worth(0), 168 * 9 / 495);
        x.rule(5, 100);
        DUE.is("worth(0), tax of one", x.worth(0), 168 * 8 / 495);
        x.rule(5, 100);
        x.buys(0, 1);
        x.rule(7, 100);
        x.told(15);
        DUE.is("no tax in the book", x.book(0, 7), 100);
    }

    private static void best() {
        SlipWeeks x = new SlipWeeks();
        DUE.is("best(0) of nothing", x.best(0), 0);
        DUE.is("best(1) of nothing", x.best(1), 0);
        x.rule(7, 1000000);
        DUE.is("best(0) of like ones", x.best(0), 0);
        DUE.is("best(1)", x.best(1), x.worth(0));
        x.buys(0, 1);
        int p = x.best(0);
        int most = x.best(1);
        DUE.is("best(1) is its worth", most, x.worth(p));
        for (int i = 0; i < 495; i++) {
            int w = x.worth(i);
            DUE.is("worth(" + i + ") against the best", w > most || w == most && i < p ? 1 : 0, 0);
        }
        atTop(494, 8, 9, 10);
        atTop(1, 0, 2, 3);
        x = new SlipWeeks();
        x.rule(7, 99999999);
        x.people(1, 90000);
        x.people(5, 90000);
        x.people(2, 90000);
        DUE.is("best(1) is its worth", x.best(1), x.worth(x.best(0)));
        DUE.is("best is not 0", x.best(0) > 0 ? 1 : 0, 1);
    }

    /** Rank 4 alone pays, and all rows but a few are crossed: of these the one that is crossed least is best. */
    private static void atTop(int best, int... fewer) {
        SlipWeeks x = new SlipWeeks();
        x.rule(3, 0);
        x.rule(4, 0);
        x.rule(7, 99999999);
        x.rule(1, 0);
        x.people(3, 99000);
        DUE.is("best(0) of like ones", x.best(0), 0);
        DUE.is("best(1)", x.best(1), 99999999L * 60 / 100 / 201 / 495);
        x.many(0, 495);
        for (int p = 0; p < 12; p++) {
            if (p != best) {
                x.buys(p, 5);
            }
        }
        for (int p : fewer) {
            DUE.is("worth(" + p + ")", x.worth(p), 99999999L * 60 / 100 / (p < 12 ? 7 : 2) / 495);
        }
        DUE.is("best(0)", x.best(0), best < 12 ? best : 12);
        DUE.is("best(1)", x.best(1), 99999999L * 60 / 100 / 2 / 495);
    }

    private static void alone() {
        SlipWeeks x = new SlipWeeks();
        DUE.is("alone(0)", x.alone(0), 495);
        DUE.is("alone(1)", x.alone(1), 0);
        x.buys(0, 1);
        x.buys(1, 1);
        x.buys(9, 1);
        DUE.is("alone(0)", x.alone(0), 492);
        DUE.is("alone(1)", x.alone(1), 2);
        x.people(7, 494);
        // BOUGHT likes its 494 rows 1150 together: one cross where it likes 3 or more, none of the 294
        // rows with no or one number from 8 on, nor of the last row.
        x.people(3, 494);
        DUE.is("alone(0) behind 494 machines", x.alone(0), 294 + 1 - 3);
        DUE.is("alone(1)", x.alone(1), 2);
        x.many(1, 495);
        DUE.is("alone(0) behind 495 machines", x.alone(0), 0);
        DUE.is("alone(1)", x.alone(1), Due.NONE);
        DUE.is("status(3)", x.status(3), 1);
        DUE.is("alone(2)", x.alone(2), Due.BEYOND);
        DUE.is("alone(-1)", x.alone(-1), Due.BEYOND);
    }

    private static void lines() {
        SlipWeeks x = new SlipWeeks();
        DUE.is("line(0)", x.line(0), 20);
        x.rule(7, 5000);
        DUE.is("line(0), whatever the pot is", x.line(0), 20);
        DUE.is("the pot stays", x.count(7), 5000);
        x.rule(0, 99);
        x.people(1, 5000);
        x.people(5, 50000);
        x.rule(5, 20);
        x.rule(6, 3);
        for (int place : new int[] {0, 1, 2, 7, 33, 99, 200, 201, 333, 400, 491, 492, 493, 494}) {
            int pot = x.line(place);
            x.rule(7, pot);
            DUE.is("worth(" + place + ") on its line", x.worth(place) >= 99 ? 1 : 0, 1);
            x.rule(7, Math.max(0, pot - 1));
            DUE.is("worth(" + place + ") below its line", x.worth(place) < 99 || pot == 0 ? 1 : 0, 1);
        }
        x.rule(1, 100);
        x.rule(0, 1);
        x.many(0, 0);
        x.many(1, 0);
        x.buys(0, 30);
        DUE.is("line(494) with what comes in", x.line(494), 0);
        x.rule(6, 0);
        x.rule(5, 100);
        DUE.is("line(494), all taxed", x.line(494), Due.NONE);
        x.rule(5, 0);
        x.rule(2, 0);
        x.rule(3, 0);
        x.rule(4, 0);
        DUE.is("line(494), no shares", x.line(494), Due.NONE);
        // One hundredth of rank 4 alone: 495 times the price is wanted of it.
        x.returned();
        x.rule(2, 1);
        x.rule(0, 99);
        DUE.is("line(3)", x.line(3), 495 * 99 * 100);
        x.buys(3, 19);
        x.rule(1, 0);
        DUE.is("line(3) with 19 others", x.line(3), 495 * 99 * 20 * 100);
        x.buys(3, 1);
        DUE.is("line(3) with 20 others", x.line(3), Due.NONE);
        // The greatest pot gives just the price: 999999 by 101 and 495 is 20 and little more.
        x.buys(3, 80);
        x.rule(0, 20);
        DUE.is("line(3) that only the greatest pots reach", x.line(3), 495 * 20 * 101 * 100);
        x.rule(0, 19);
        DUE.is("line(3) below it", x.line(3), 495 * 19 * 101 * 100);
        x.rule(0, 21);
        DUE.is("line(3) above it", x.line(3), Due.NONE);
    }

    private static void houses() {
        SlipWeeks x = new SlipWeeks();
        DUE.is("house(495)", x.house(495), -495);
        x.rule(7, 100000);
        x.rule(0, 7);
        DUE.is("house(1)", x.house(1), x.worth(0) - 7);
        // All rows: 60000 by 1, 30000 by 32, 10000 by 168 at each draw, each cut.
        DUE.is("house(495)", x.house(495), 60000 + 32 * (30000 / 32) + 168 * (10000 / 168) - 495 * 7);
        x.rule(5, 50);
        x.rule(6, 59);
        DUE.is("house(495) with tax of each", x.house(495),
            60000 - (60000 - 59) / 2 + 32 * (937 - (937 - 59) / 2) + 168 * 59 - 495 * 7);
        x.rule(5, 0);
        x.rule(1, 0);
        x.buys(0, 1);
        x.buys(1, 1);
        // Place 2 is the least of those that nobody has.
        DUE.is("house(1)", x.house(1), x.worth(2) - 7);
        x.people(7, 99999);
        DUE.is("house(1) of the least crossed", x.house(1), x.worth(x.place(0b11101)) - 7);
        DUE.is("house(0)", x.house(0), Due.BEYOND);
        DUE.is("house(496)", x.house(496), Due.BEYOND);
        DUE.is("house(-1)", x.house(-1), Due.BEYOND);
        x.returned();
        x.many(0, 0);
        x.rule(3, 0);
        x.rule(4, 0);
        DUE.is("house(10) of rank 4 alone", x.house(10), 60000 * 10 / 495 - 70);
        x.rule(7, 823);
        x.rule(0, 1);
        DUE.is("house(1) of 493 by 495", x.house(1), -1);
        x.rule(2, 100);
        x.rule(7, 494);
        DUE.is("house(1) of 494 by 495", x.house(1), -1);
        x.rule(7, 495);
        DUE.is("house(1) of 495 by 495", x.house(1), 0);
        x.rule(2, 60);
        x.rule(7, 100000);
        x.rule(0, 7);
        for (int i = 0; i < 40; i++) {
            x.buys(i, 3);
        }
        DUE.is("house(455), none shared", x.house(455), 60000L * 455 / 495 - 455 * 7);
        DUE.is("house(457), two of them shared by four", x.house(457), (60000L * 455 + 2 * 15000) / 495 - 457 * 7);
        levels();
    }

    /** Rows of all of 1 to 41 crosses: a house takes them from the least on, whichever their places. */
    private static void levels() {
        SlipWeeks x = new SlipWeeks();
        x.rule(1, 0);
        x.rule(2, 100);
        x.rule(3, 0);
        x.rule(4, 0);
        x.rule(7, 99999999);
        x.people(3, 495);
        int[] crosses = new int[40];
        for (int i = 0; i < 40; i++) {
            crosses[i] = (i * 7 + 3) % 40 + 1;
            x.buys(i, crosses[i]);
        }
        long all = 455L * (99999999 / 2);
        DUE.is("house(455)", x.house(455), all / 495 - 455);
        for (int n = 1; n <= 40; n++) {
            all += 99999999 / (n + 2);
            DUE.is("house(" + (455 + n) + ")", x.house(455 + n), all / 495 - 455 - n);
        }
    }

    private static void seekers() {
        SlipWeeks x = new SlipWeeks();
        DUE.is("seek(200, 0)", x.seek(200, 0), 0);
        DUE.is("seek(200, 1)", x.seek(200, 1), 200);
        DUE.is("seek(1, 1)", x.seek(1, 1), 1);
        DUE.is("seekers leave all as it was", x.count(2), 0);
        x.people(3, 495);
        DUE.is("seek(1, 0) of ones", x.seek(1, 0), 1);
        x.many(0, 99000);
        Due.liking(x, "(d-3?0:1)");
        x.told(15);
        x.people(0, 99000);
        // All but 0 1 2 3 have 200 and 200 of CROSS: it alone has 200 till all seekers took it.
        DUE.is("crossed(-1, 0)", x.crossed(-1, 0), 200);
        DUE.is("crossed(-1, 1)", x.crossed(-1, 1), 400);
        DUE.is("seek(200, 1)", x.seek(200, 1), 1);
        DUE.is("seek(200, 0)", x.seek(200, 0), 400);
        DUE.is("seek(199, 0)", x.seek(199, 0), 399);
        x.buys(0, 199);
        DUE.is("seek(2, 1)", x.seek(2, 1), 1);
        DUE.is("seek(3, 1)", x.seek(3, 1), 2);
        DUE.is("shares(0)", x.shares(0), 399);
        DUE.is("shares(1)", x.shares(1), 400);
        x.buys(0, 5);
        DUE.is("seek(1, 0), the second is least", x.seek(1, 0), 400);
        DUE.is("seek(200, 1), the first is not", x.seek(200, 1), 200);
        rounds();
    }

    /** Three rows are left behind by all others: seekers fill them by turns. */
    private static void rounds() {
        SlipWeeks x = new SlipWeeks();
        Due.liking(x, "(d-3?0:1)");
        x.told(15);
        x.people(0, 98800);
        x.buys(0, 10);
        DUE.is("crossed(-1, 0)", x.crossed(-1, 0), 10);
        DUE.is("crossed(-1, 494)", x.crossed(-1, 494), 200);
        DUE.is("seek(5, 0)", x.seek(5, 0), 15);
        DUE.is("seek(5, 1)", x.seek(5, 1), 1);
        Due.liking(x, "(d-3?0:(d-2?0:1))");
        DUE.is("crossed(-1, 1)", x.crossed(-1, 1), 0);
        // 33 rows have three or four in common with 0 1 2 3; the first of them has ten.
        DUE.is("seek(32, 1)", x.seek(32, 1), 32);
        DUE.is("seek(32, 0)", x.seek(32, 0), 1);
        DUE.is("seek(31, 0)", x.seek(31, 0), 0);
        DUE.is("seek(200, 1)", x.seek(200, 1), 32);
        DUE.is("seek(200, 0)", x.seek(200, 0), 6);
    }

    private static void wrong() {
        SlipWeeks x = new SlipWeeks();
        for (int p : new int[] {-1, 495, Integer.MIN_VALUE, Integer.MAX_VALUE}) {
            DUE.is("worth(" + p + ")", x.worth(p), Due.BEYOND);
            DUE.is("line(" + p + ")", x.line(p), Due.BEYOND);
            DUE.is("shares(" + p + ")", x.shares(p), Due.BEYOND);
            DUE.is("best(" + p + ")", x.best(p), Due.BEYOND);
            DUE.is("house(" + p * 2 + ")", x.house(p == -1 ? -2 : p == 495 ? 990 : p), Due.BEYOND);
            DUE.is("seek(1, " + p + ")", x.seek(1, p), Due.BEYOND);
            DUE.is("seek(" + p + ", 0)", x.seek(p, 0), Due.BEYOND);
        }
        DUE.is("best(2)", x.best(2), Due.BEYOND);
        DUE.is("seek(0, 0)", x.seek(0, 0), Due.BEYOND);
        DUE.is("seek(201, 0)", x.seek(201, 0), Due.BEYOND);
        DUE.is("seek(1, 2)", x.seek(1, 2), Due.BEYOND);
        DUE.is("status(0)", x.status(0), 32);
    }
}
