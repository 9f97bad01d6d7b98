import java.util.ArrayList;
import java.util.Comparator;
import java.util.List;
import java.util.stream.IntStream;

/** Sentences of section 4 and of promises 21 to 32: what a cross is worth, houses, seekers, drums. */
final class WorthSentences {
    private static final int MIN = Integer.MIN_VALUE;
    private static final int MAX = Integer.MAX_VALUE;
    private final Sentences s;

    WorthSentences(Sentences s) {
        this.s = s;
    }

    void run() {
        now();
        worth();
        tax();
        best();
        alone();
        line();
        houseOfRows();
        seekers();
        dues();
        evens();
        feltOnes();
        acts();
        refusals();
    }

    /** A pot of which one rank alone has its share, all of it; nothing comes in. */
    private static SlipWeeks payer(int rank, int pot) {
        SlipWeeks x = new SlipWeeks();
        x.rule(1, 0);
        for (int r = 4; r >= 2; r--) {
            x.rule(6 - r, r == rank ? 100 : 0);
        }
        x.rule(7, pot);
        return x;
    }

    private void now() {
        s.of("Terms 4", "NOW: THE POT as it would be with this week's IN (by all CROSSED as they are).");
        SlipWeeks x = new SlipWeeks();
        s.is("now() of nothing", x.now(), 0);
        x.rule(7, 10);
        s.is("now() without crosses", x.now(), 10);
        x.people(3, 989);
        x.buys(7, 3);
        x.rule(0, 3);
        x.rule(1, 33);
        // 495 of the people's and 3: the cut ones are not paid.
        s.is("now()", x.now(), 10 + 498 * 3 * 33 / 100);
        s.is("the pot stays", x.count(7), 10);
        s.is("no week", x.count(1), 0);
        x.rule(1, 0);
        s.is("now(), nothing of it comes", x.now(), 10);
        x.rule(1, 100);
        s.is("now(), all of it comes", x.now(), 10 + 1494);
    }

    private void worth() {
        s.of("Terms 4", "WORTH of a ROW: for one cross more of it (CROSSED of it is 1 more, IN isn't): of all 495 DRAWS "
            + "what it GETS less TAX, all together, by 495.");
        SlipWeeks x = payer(4, 494);
        s.is("worth(3) of 494 by 495", x.worth(3), 0);
        x.rule(7, 495);
        s.is("worth(3) of 495 by 495", x.worth(3), 1);
        x.rule(7, 989);
        s.is("worth(3) of 989 by 495", x.worth(3), 1);
        x.buys(3, 1);
        s.is("worth(3), shared with one: 494", x.worth(3), 0);
        s.is("worth(4), not shared", x.worth(4), 1);
        x.rule(7, 990);
        s.is("worth(3), shared with one: 495", x.worth(3), 1);
        x.rule(1, 100);
        s.is("worth(4), with IN of one cross, not of two: 991", x.worth(4), 991 / 495);
        x.rule(7, 988);
        s.is("worth(4): 989", x.worth(4), 1);
        x.rule(7, 989);
        s.is("worth(4): 990", x.worth(4), 2);
        x = payer(3, 100);
        s.is("worth(9) by rank 3: 32 draws", x.worth(9), 3200 / 495);
        x = payer(2, 100);
        s.is("worth(9) by rank 2: 168 draws", x.worth(9), 16800 / 495);
        x.people(3, 495);
        // Of each of 168 draws 100 by 169 is cut to nothing.
        s.is("worth(9), all crossed once", x.worth(9), 0);
        x.rule(7, 169);
        s.is("worth(9), one of each", x.worth(9), 0);
        x.rule(7, 169 * 3);
        s.is("worth(9), three of each", x.worth(9), 168 * 3 / 495);
        x.rule(7, 0);
        s.is("worth(9) of nothing", x.worth(9), 0);
        for (int rank = 2; rank <= 4; rank++) {
            int[] crosses = hereAndThere();
            x = crossed(rank, crosses);
            for (int p = 0; p < 450; p++) {
                s.is("worth(" + p + ") by rank " + rank, x.worth(p), gets(crosses, rank, p) / 495);
            }
            for (int p = 450; p < 495; p++) {
                s.is("worth(" + p + ") by rank " + rank, crossed(rank, crosses).worth(p), gets(crosses, rank, p) / 495);
            }
        }
        x = new SlipWeeks();
        for (int what = 2; what < 5; what++) {
            x.rule(what, 100);
        }
        x.rule(7, 99999999);
        s.is("worth(494) of the most", x.worth(494), 201L * 99999999 / 495);
        s.is("best(1) of the most", x.best(1), 201L * 99999999 / 495);
    }

    private static final int POT = 1000003;

    /** Rows that lie near and far from one another are crossed, from once to 13 times. */
    private static int[] hereAndThere() {
        int[] crosses = new int[495];
        int[] places = {0, 1, 2, 5, 33, 77, 100, 200, 201, 300, 377, 450, 494};
        for (int i = 0; i < places.length; i++) {
            crosses[places[i]] = 1 + i * 7 % 13;
        }
        return crosses;
    }

    private static SlipWeeks crossed(int rank, int[] crosses) {
        SlipWeeks x = payer(rank, POT);
        for (int p = 0; p < 495; p++) {
            if (crosses[p] > 0) {
                x.buys(p, crosses[p]);
            }
        }
        return x;
    }

    /** What one cross more gets over all draws, each draw asked by each row. */
    private static long gets(int[] crosses, int rank, int... places) {
        long all = 0;
        for (int draw : PlainModel.ALL) {
            long own = 0;
            for (int p : places) {
                own += Integer.bitCount(PlainModel.ALL.get(p) & draw) == rank ? 1 : 0;
            }
            long winners = own;
            for (int p = 0; p < 495; p++) {
                winners += Integer.bitCount(PlainModel.ALL.get(p) & draw) == rank ? crosses[p] : 0;
            }
            all += own > 0 ? own * (POT / winners) : 0;
        }
        return all;
    }

    private void tax() {
        SlipWeeks x = payer(4, 4950);
        x.rule(5, 100);
        x.rule(6, 4950);
        s.is("worth(0), just FREE", x.worth(0), 10);
        x.rule(6, 4949);
        s.is("worth(0), one above FREE, all taxed: 4949", x.worth(0), 9);
        x.rule(5, 99);
        s.is("worth(0), 99 hundredths of one are nothing", x.worth(0), 10);
        x.rule(6, 4951);
        s.is("worth(0), below FREE", x.worth(0), 10);
        x.rule(6, 0);
        x.rule(5, 0);
        s.is("worth(0), no TAX", x.worth(0), 10);
        x.rule(5, 33);
        s.is("worth(0), TAX of 33", x.worth(0), (4950 - 4950 * 33 / 100) / 495);
        x.rule(5, 100);
        s.is("worth(0), all taxed", x.worth(0), 0);
        // It is cut of each draw: half of 1 is nothing, 168 times.
        x = payer(2, 3);
        x.rule(5, 50);
        x.rule(6, 2);
        s.is("worth(0), TAX cut of each draw", x.worth(0), 168 * 3 / 495);
        x.rule(5, 100);
        s.is("worth(0), TAX of each draw", x.worth(0), 168 * 2 / 495);
    }

    private void best() {
        s.of("Terms 4", "BEST: the ROW of greatest WORTH, of like ones the least PLACE.");
        SlipWeeks x = payer(4, 495);
        s.is("best(0), all alike", x.best(0), 0);
        s.is("best(1)", x.best(1), 1);
        x.buys(0, 1);
        s.is("best(0), the second", x.best(0), 1);
        x.returned();
        x.people(7, 99999);
        x.rule(7, 99999999);
        // Least of all crossed are those of whose numbers none is 8 or more: the first has place 0.
        s.is("best(0), alike again", x.best(0), 0);
        s.is("best(1)", x.best(1), 99999999 / (99999 / 1155 + 1) / 495);
        x = payer(4, 989);
        x.buys(0, 1);
        s.is("best(0): 494 and 989 by 495", x.best(0), 1);
        x.rule(7, 990);
        s.is("best(0): 495 and 990 by 495", x.best(0), 1);
        x.rule(7, 494);
        s.is("best(0): what is cut away is alike", x.best(0), 0);
        s.is("best(1)", x.best(1), 0);
        for (int rank = 2; rank <= 4; rank++) {
            int[] crosses = hereAndThere();
            x = crossed(rank, crosses);
            int best = 0;
            for (int p = 1; p < 495; p++) {
                best = gets(crosses, rank, p) / 495 > gets(crosses, rank, best) / 495 ? p : best;
            }
            s.is("best(0) by rank " + rank, x.best(0), best);
            s.is("best(1) by rank " + rank, x.best(1), gets(crosses, rank, best) / 495);
        }
        x = payer(4, 99999999);
        Due.liking(x, "(d-3?0:1)");
        x.told(3840);
        x.people(0, 99999);
        s.is("best(0), the last place alone", x.best(0), 494);
        s.is("best(1)", x.best(1), 99999999 / 495);
        x.buys(494, 500);
        s.is("best(0), not the last", x.best(0), 0);
    }

    private void alone() {
        s.of("Terms 4", "ALONE: ROWS of which CROSSED is 0.");
        SlipWeeks x = new SlipWeeks();
        s.is("alone(0)", x.alone(0), 495);
        s.is("alone(1)", x.alone(1), 0);
        x.buys(0, 1);
        s.is("alone(0)", x.alone(0), 494);
        s.is("alone(1)", x.alone(1), 1);
        x.people(0, 494 * 9);
        Due.liking(x, "(d-3?0:1)");
        x.told(3840);
        s.is("alone(0), the last place", x.alone(0), 1);
        s.is("alone(1), the last place", x.alone(1), 494);
        x.buys(494, 1);
        s.is("alone(0), none", x.alone(0), 0);
        s.is("alone(1), none", x.alone(1), Due.NONE);
    }

    private void line() {
        s.of("Terms 4", "LINE: the least POT (0 to 99999999, all else as it is) with which a ROW's WORTH is PRICE or more.");
        SlipWeeks x = payer(4, 77);
        s.is("line(0) of 495", x.line(0), 495);
        s.is("the pot stays", x.count(7), 77);
        x.rule(0, 2);
        s.is("line(0) of twice 495", x.line(0), 990);
        x.buys(0, 2);
        s.is("line(0), shared by three", x.line(0), 2970);
        s.is("line(1)", x.line(1), 990);
        x.rule(1, 100);
        s.is("line(1) less what comes in", x.line(1), 990 - 4);
        x = payer(4, 0);
        x.rule(1, 100);
        x.buys(7, 494);
        s.is("line(0), all but one comes in", x.line(0), 1);
        x.buys(7, 1);
        s.is("line(0), all comes in", x.line(0), 0);
        x.buys(7, 1);
        s.is("line(0), more comes in", x.line(0), 0);
        greatestLine();
        x = payer(4, 99999999);
        x.rule(2, 0);
        s.is("line(0), nobody gets anything", x.line(0), Due.NONE);
        x.rule(2, 100);
        x.rule(5, 100);
        x.rule(6, 494);
        s.is("line(0), all above 494 is taxed", x.line(0), Due.NONE);
        x.rule(6, 495);
        s.is("line(0), all above 495 is taxed", x.line(0), 495);
    }

    /** 20207 share 4950 each: 100024650, less the tenth of what is paid in, 24651, is just the greatest pot. */
    private void greatestLine() {
        SlipWeeks x = payer(4, 5);
        x.rule(0, 10);
        x.rule(1, 10);
        x.buys(0, 9999);
        x.buys(0, 9999);
        x.buys(0, 208);
        x.buys(494, 4444);
        s.is("line(0), one above the greatest pot", x.line(0), Due.NONE);
        x.buys(494, 1);
        s.is("line(0), the greatest pot", x.line(0), 99999999);
        x.buys(494, 1);
        s.is("line(0), one below the greatest pot", x.line(0), 99999998);
        s.is("the pot stays", x.count(7), 5);
    }

    private void houseOfRows() {
        s.of("Terms 4", "HOUSE of n ROWS: those of the least CROSSED (of like ones the least PLACE), one cross more of each "
            + "(IN as it is); what they GET together over all DRAWS less TAX (of each cross), by 495, less n times PRICE.");
        SlipWeeks x = payer(4, 494);
        s.is("house(1): 494 by 495", x.house(1), -1);
        s.is("house(495)", x.house(495), 494 - 495);
        x.rule(7, 495);
        s.is("house(1): 495 by 495", x.house(1), 0);
        s.is("house(2), cut together", x.house(2), 0);
        x.rule(0, 99);
        s.is("house(495), dear", x.house(495), 495 - 99 * 495);
        x.rule(1, 100);
        s.is("house(495), IN as it is: none", x.house(495), 495 - 99 * 495);
        x.rule(0, 1);
        x.buys(0, 20);
        s.is("house(494): none of them shared, IN 20", x.house(494), 515 * 494 / 495 - 494);
        s.is("house(495): one shared by 21", x.house(495), (515 * 494 + 24) / 495 - 495);
        x = payer(4, 989);
        s.is("house(1): 989 by 495", x.house(1), 0);
        s.is("house(2): twice 989 by 495, cut together", x.house(2), 3 - 2);
        // At rank 3 its own 32 crosses share a draw.
        x = payer(3, 3200);
        s.is("house(495), shared with itself", x.house(495), 3200 - 495);
        x.rule(5, 50);
        x.rule(6, 99);
        s.is("house(495), half of 1 is nothing, of each cross", x.house(495), 3200 - 495);
        x.rule(6, 98);
        s.is("house(495), half of 2, of each cross", x.house(495), 3200 - 32 - 495);
        leastPlace();
        leastCrossed();
    }

    /** Many rows are crossed alike, others by all numbers between: each house takes them from the least on. */
    private void leastCrossed() {
        for (int rank = 2; rank <= 4; rank++) {
            houses(rank, hereAndThere(), 1, 2, 3, 100, 481, 482, 483, 484, 485, 486, 487, 488, 489, 490, 491, 492, 493, 494, 495);
        }
        // Forty rows of 1 to 11 crosses, three or four of each.
        int[] crosses = new int[495];
        for (int i = 0; i < 40; i++) {
            crosses[i * 12] = 1 + i * 5 % 11;
        }
        houses(4, crosses, IntStream.range(454, 496).toArray());
        SlipWeeks x = payer(4, 4950);
        Due.liking(x, "(d-3?0:1)");
        x.told(3840);
        x.people(0, 494);
        s.is("house(1), the last place", x.house(1), 10 - 1);
        s.is("house(2), and the first that is crossed once", x.house(2), (4950 + 2475) / 495 - 2);
        x.buys(494, 2);
        s.is("house(494), all but the last", x.house(494), 2475 * 494 / 495 - 494);
    }

    private void houses(int rank, int[] crosses, int... sizes) {
        SlipWeeks x = crossed(rank, crosses);
        List<Integer> order = new ArrayList<>(IntStream.range(0, 495).boxed().toList());
        order.sort(Comparator.comparingInt(p -> crosses[p] * 1000 + p));
        for (int n : sizes) {
            int[] taken = order.subList(0, n).stream().mapToInt(p -> p).toArray();
            s.is("house(" + n + ") by rank " + rank, x.house(n), gets(crosses, rank, taken) / 495 - n);
        }
    }

    /**
     * Place 1 shares ten of its draws of rank 3 with the five crosses of place 0, the last place none: with
     * like crosses the lesser place is taken.
     */
    private void leastPlace() {
        SlipWeeks x = payer(3, 1000);
        x.buys(0, 5);
        s.is("house(1), the least place", x.house(1), (10 * 166 + 22 * 1000) / 495 - 1);
        for (int p = 1; p < 40; p++) {
            x.buys(p, 1);
        }
        Due.liking(x, "(d-3?1:2)");
        x.told(3840);
        x.people(0, 99999);
        x.rule(2, 100);
        x.rule(3, 0);
        x.rule(7, 1000000);
        s.is("crossed(-1, 494)", x.crossed(-1, 494), 101);
        s.is("crossed(-1, 493)", x.crossed(-1, 493), 202);
        s.is("house(1), the last place is crossed least", x.house(1), 1000000 / 102 / 495 - 1);
        s.is("house(2), and the first that are crossed 202 times", x.house(2), (1000000 / 102 + 1000000 / 203) / 495 - 2);
    }

    private void seekers() {
        s.of("Terms 4", "SEEKERS: m (1 to 200) one behind the other take a cross of the ROW that is CROSSED least by then "
            + "(of like ones the least PLACE).");
        SlipWeeks x = new SlipWeeks();
        s.is("seek(1, 0)", x.seek(1, 0), 0);
        s.is("seek(1, 1)", x.seek(1, 1), 1);
        s.is("seek(200, 0)", x.seek(200, 0), 0);
        s.is("seek(200, 1)", x.seek(200, 1), 200);
        Due.liking(x, "(d-2?0:1)");
        x.told(15);
        x.people(0, 99999);
        // 33 rows are left, the first of them bought twice: 32 take the others, then 32 again, then all by turns.
        x.buys(0, 2);
        s.is("alone(0)", x.alone(0), 32);
        s.is("seek(31, 0)", x.seek(31, 0), 0);
        s.is("seek(32, 0)", x.seek(32, 0), 1);
        s.is("seek(32, 1)", x.seek(32, 1), 32);
        s.is("seek(63, 0)", x.seek(63, 0), 1);
        s.is("seek(64, 0)", x.seek(64, 0), 2);
        s.is("seek(64, 1)", x.seek(64, 1), 32);
        // Of like ones the least place: the first is next.
        s.is("seek(65, 1)", x.seek(65, 1), 33);
        s.is("seek(97, 0)", x.seek(97, 0), 3);
        s.is("seek(96, 0)", x.seek(96, 0), 2);
        s.is("seek(200, 0)", x.seek(200, 0), (200 + 2) / 33);
        s.is("nothing is changed", x.shares(0), 2);
        s.is("nothing is bought", x.count(3), 1);
        // A row that is left behind by all others takes all.
        x = new SlipWeeks();
        Due.liking(x, "(d-3?0:1)");
        x.told(3840);
        x.people(0, 494 * 201);
        s.is("seek(200, 1), one row", x.seek(200, 1), 1);
        s.is("seek(200, 0), one row", x.seek(200, 0), 200);
        x.buys(494, 2);
        s.is("seek(199, 1), till it is alike", x.seek(199, 1), 1);
        s.is("seek(199, 0)", x.seek(199, 0), 201);
        s.is("seek(200, 1), then the least place", x.seek(200, 1), 2);
    }

    private void dues() {
        s.of("Terms 4", "DUE of a NUMBER: how many WEEKS since it came (0: in the latest; as many as there were, if never).");
        SlipWeeks x = new SlipWeeks();
        s.is("due(0), no week", x.due(0), 0);
        s.is("due(11), no week", x.due(11), 0);
        x.told(15);
        s.is("due(0), in the latest", x.due(0), 0);
        s.is("due(4), never", x.due(4), 1);
        x.told(RowSentences.bits(3, 4, 5, 11));
        s.is("due(0), one week since", x.due(0), 1);
        s.is("due(3), in both", x.due(3), 0);
        s.is("due(4)", x.due(4), 0);
        s.is("due(6), never", x.due(6), 2);
        for (int i = 2; i < 40; i++) {
            x.told(RowSentences.bits(3, 4, 5, 11));
        }
        s.is("due(0), in the first of 40", x.due(0), 39);
        s.is("due(6), in none of 40", x.due(6), 40);
        s.is("due(11), in the latest of 40", x.due(11), 0);
    }

    private void evens() {
        s.of("Terms 4", "EVEN: of all NUMBERS (how often it came times 12, less 4 times how many WEEKS there were) times itself, together.");
        SlipWeeks x = new SlipWeeks();
        s.is("drum(), no week", x.drum(), 0);
        x.told(15);
        s.is("drum(), one week", x.drum(), 4 * 8 * 8 + 8 * 4 * 4);
        x.told(240);
        s.is("drum(), two weeks", x.drum(), 8 * 4 * 4 + 4 * 8 * 8);
        x.told(3840);
        s.is("drum(), quite even", x.drum(), 0);
        for (int i = 3; i < 40; i++) {
            x.told(15);
        }
        s.is("drum(), 40 weeks", x.drum(), 4 * 296L * 296 + 8 * 148L * 148);
    }

    private void feltOnes() {
        s.of("Terms 4", "FELT of a NUMBER: WINNERS of RANK 2 of the WEEKS in which it came, together, by how many such WEEKS, "
            + "less likewise of all others.");
        SlipWeeks x = new SlipWeeks();
        int draw = x.row(0);
        int other = RowSentences.bits(0, 1, 8, 9);
        // By 0 1 8 9 the row 0 1 2 3 has rank 2; by the others none that is bought.
        x.buys(0, 5);
        x.told(other);
        x.told(draw);
        s.is("felt(8): 5 by 1, 0 by 1", x.felt(8), 5);
        s.is("felt(2): 0 by 1, 5 by 1", x.felt(2), -5);
        x.told(draw);
        s.is("felt(2): 0 by 2, 5 by 1", x.felt(2), -5);
        x.returned();
        x.buys(0, 2);
        x.told(other);
        s.is("felt(8): 7 by 2, cut, 0 by 2", x.felt(8), 3);
        s.is("felt(2): 0 by 2, 7 by 2, cut", x.felt(2), -3);
        x.told(RowSentences.bits(2, 3, 10, 11));
        s.is("felt(8): 7 by 2 less 2 by 3, each cut", x.felt(8), 3);
        s.is("felt(2): 2 by 3 less 7 by 2, each cut", x.felt(2), -3);
        s.is("felt(10): 2 by 1 less 7 by 4, each cut", x.felt(10), 1);
    }

    private void acts() {
        s.of("Promise 21", "NOW.");
        SlipWeeks x = payer(4, 1000);
        x.people(3, 495);
        s.is("now()", x.now(), 1000);
        x.rule(1, 50);
        s.is("now()", x.now(), 1000 + 247);
        s.of("Promise 22", "WORTH of a ROW.");
        s.is("worth(0)", x.worth(0), 1247 / 2 / 495);
        s.is("worth(494)", x.worth(494), 1247 / 2 / 495);
        s.of("Promise 23", "BEST: what 0 its PLACE, 1 its WORTH.");
        s.is("best(0)", x.best(0), 0);
        s.is("best(1)", x.best(1), 1);
        s.of("Promise 24", "ALONE: how many ROWS (what 0), the first (1).");
        s.is("alone(0) of none", x.alone(0), 0);
        x.many(0, 494);
        s.is("alone(0)", x.alone(0), 495);
        s.is("alone(1)", x.alone(1), 0);
        s.of("Promise 25", "LINE.");
        s.is("line(0)", x.line(0), 495);
        s.is("line(494)", x.line(494), 495);
        s.of("Promise 26", "HOUSE of n ROWS (1 to 495).");
        s.is("house(1)", x.house(1), 1000 / 495 - 1);
        s.is("house(495)", x.house(495), 1000 - 495);
        s.of("Promise 27", "SEEKERS: what 0 how many crosses the ROW has that is CROSSED least then, 1 how many ROWS they took.");
        s.is("seek(200, 0)", x.seek(200, 0), 0);
        s.is("seek(200, 1)", x.seek(200, 1), 200);
        x.many(0, 495);
        s.is("seek(200, 0), all crossed once", x.seek(200, 0), 1);
        s.of("Promise 28", "Chance that a cross more of a ROW shares RANK 4, if it wins that: with how many others (CROSSED of it).");
        s.is("shares(0)", x.shares(0), 1);
        x.buys(494, 7);
        s.is("shares(494)", x.shares(494), 8);
        s.of("Promise 29", "DUE of a NUMBER.");
        s.is("due(0)", x.due(0), 0);
        s.of("Promise 30", "How often a NUMBER came.");
        s.is("came(0), no week", x.came(0), 0);
        x.told(15);
        x.told(RowSentences.bits(0, 9, 10, 11));
        s.is("came(0)", x.came(0), 2);
        s.is("came(11)", x.came(11), 1);
        s.is("came(4)", x.came(4), 0);
        s.of("Promise 31", "EVEN.");
        // One came twice, six once, five never.
        s.is("drum()", x.drum(), 16 * 16 + 6 * 4 * 4 + 5 * 8 * 8);
        s.of("Promise 32", "FELT of a NUMBER.");
        // Of each draw 168 of the machines; 8 9 10 11 has rank 0 and rank 3.
        s.is("felt(11)", x.felt(11), 0);
    }

    private void refusals() {
        String[] ofRow = {"worth", "line", "shares"};
        String[] promise = {"Promise 22", "Promise 25", "Promise 28"};
        for (int i = 0; i < 3; i++) {
            s.of(promise[i], "BEYOND.");
            refusedAll(ofRow[i], -1, 495, MIN, MAX);
        }
        s.of("Promise 23", "BEYOND.");
        refusedAll("best", -1, 2, MIN, MAX);
        s.of("Promise 24", "BEYOND.");
        refusedAll("alone", -1, 2, MIN, MAX);
        s.refused(WorthSentences::noneAlone, Due.BEYOND, "alone", 2);
        s.of("Promise 24", "NONE (1).");
        s.refused(WorthSentences::noneAlone, Due.NONE, "alone", 1);
        s.of("Promise 25", "NONE: not with any.");
        s.refused(() -> payer(0, 99999999), Due.NONE, "line", 7);
        s.refused(() -> payer(0, 0), Due.BEYOND, "line", 495);
        s.of("Promise 26", "BEYOND.");
        refusedAll("house", 0, -1, 496, MIN, MAX);
        s.of("Promise 27", "BEYOND.");
        for (int m : new int[] {0, -1, 201, MIN, MAX}) {
            s.refused(Looks::settled, Due.BEYOND, "seek", m, 0);
            s.refused(Looks::settled, Due.BEYOND, "seek", m, 1);
        }
        for (int what : new int[] {-1, 2, MIN, MAX}) {
            s.refused(Looks::settled, Due.BEYOND, "seek", 1, what);
        }
        String[] ofNumber = {"due", "came", "felt"};
        String[] its = {"Promise 29", "Promise 30", "Promise 32"};
        for (int i = 0; i < 3; i++) {
            s.of(its[i], "BEYOND.");
            refusedAll(ofNumber[i], -1, 12, 32, MIN, MAX);
        }
        s.of("Promise 32", "NONE: it came in no WEEK, or in all.");
        s.refused(SlipWeeks::new, Due.NONE, "felt", 0);
        s.refused(SlipWeeks::new, Due.BEYOND, "felt", 12);
        s.refused(() -> drawn(15, 15, 23), Due.NONE, "felt", 0);
        s.refused(() -> drawn(15, 15, 23), Due.NONE, "felt", 5);
        s.refused(() -> drawn(15), Due.NONE, "felt", 3);
        s.refused(() -> drawn(15), Due.NONE, "felt", 4);
        s.is("felt(3), in all but one", drawn(15, 15, 23).felt(3), 0);
        s.is("felt(4), in one", drawn(15, 15, 23).felt(4), 0);
    }

    private static SlipWeeks drawn(int... draws) {
        SlipWeeks x = new SlipWeeks();
        for (int d : draws) {
            x.told(d);
        }
        return x;
    }

    private static SlipWeeks noneAlone() {
        SlipWeeks x = Looks.settled();
        x.many(3, 99999);
        return x;
    }

    private void refusedAll(String name, int... a) {
        for (int v : a) {
            s.refused(Looks::settled, Due.BEYOND, name, v);
        }
    }
}
