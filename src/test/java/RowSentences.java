import java.util.function.Supplier;

/** Sentences of the terms' head and section 1, and of promises 1 to 11. */
final class RowSentences {
    private static final int MIN = Integer.MIN_VALUE;
    private static final int MAX = Integer.MAX_VALUE;
    private final Sentences s;

    RowSentences(Sentences s) {
        this.s = s;
    }

    void run() {
        use();
        findings();
        order();
        slip();
        rows();
        ranks();
        peopleAndKinds();
        likesOfLiking();
        likesOfKinds();
        likesOfBought();
        crossedOfRows();
        newObject();
        placeAndRow();
        people();
        ofAndMany();
        as();
        likesAndCrossed();
        buys();
        returned();
    }

    static int bits(int a, int b, int c, int d) {
        return 1 << a | 1 << b | 1 << c | 1 << d;
    }

    private void use() {
        s.of("Use", "at most 512 calls after it has been made");
        SlipWeeks x = new SlipWeeks();
        for (int i = 1; i <= 510; i++) {
            s.is("seed, call " + i, x.seed(i), i == 1 ? 1 : i - 1);
        }
        s.is("people(3, 990), call 511", x.people(3, 990), 0);
        s.is("crossed(-1, 494), call 512", x.crossed(-1, 494), 2);
    }

    private void findings() {
        s.of("Terms 0", "FINDINGS are answers below -1000000000: -1000000001 BEYOND, -1000000002 FULL, -1000000003 KIND, "
            + "-1000000004 NONE, -1000000005 STATE, -1000000006 MISSING, -1000000007 SIZE (in longs, too).");
        SlipWeeks x = new SlipWeeks();
        s.is("BEYOND", x.row(495), -1000000001);
        for (int i = 0; i < 15; i++) {
            x.feed(0, 4);
        }
        s.is("FULL", x.feed(0, 1), -1000000002);
        x.people(0, 1);
        s.is("KIND", x.as(0, 1), -1000000003);
        s.is("NONE", x.undo(), -1000000004);
        s.is("MISSING", x.read(0), -1000000006);
        s.is("SIZE", x.sheet(0, 8, -1), -1000000007);
        s.is("BEYOND, a long", x.house(0), -1000000001L);
        s.is("MISSING, a long", x.write(0, 0, 0), -1000000006L);
        s.is("BEYOND, a long", x.write(-1, 0, 0), -1000000001L);
        s.is("STATE is none of these", x.status(4), 0);
        s.is("all of them", x.status(-1), 9);
        s.of("Terms 0", "Sets are told by bits.");
        s.is("0 1 2 3", x.row(0), 15);
        s.is("8 9 10 11", x.row(494), 3840);
    }

    /** Calls that two findings would fit: the one that is asked first is told. */
    private void order() {
        s.of("Terms 0", "Each act tells its findings in the order in which they are asked; "
            + "one that answers a finding changes nothing but status().");
        s.refused(Looks::fullOfPeople, Due.BEYOND, "people", 8, 1);
        s.refused(Looks::fullOfPeople, Due.BEYOND, "people", 0, 100000);
        s.refused(Looks::fullOfBought, Due.BEYOND, "buys", 495, 1);
        s.refused(Looks::fullOfBought, Due.BEYOND, "buys", 5, 10000);
        s.refused(Looks::fullOfBought, Due.BEYOND, "buys", 200, 0);
        s.refused(Looks::fullOfTape, Due.BEYOND, "feed", 7, 5);
        s.refused(Looks::fullOfWeeks, Due.BEYOND, "told", 14);
        s.refused(Looks::settled, Due.BEYOND, "as", 8, 9);
        s.refused(Looks::settled, Due.BEYOND, "sheet", 4, 8, -1);
        s.refused(Looks::settled, Due.BEYOND, "sheet", 0, 7, -1);
        s.refused(Looks::settled, Due.MISSING, "write", 3, 40, 1);
        s.refused(Looks::settled, Due.BEYOND, "copy", 4, 0, 3, 0, 1);
        s.refused(Looks::settled, Due.MISSING, "copy", 3, -1, 0, 0, 1);
        s.refused(Looks::settled, Due.KIND, "copy", 0, -1, 1, 9, 50);
        s.of("Terms 0", "Quotients are cut.");
        SlipWeeks x = new SlipWeeks();
        x.people(3, 989);
        s.is("crossed, 989 by 495", x.crossed(0, 7), 1);
    }

    private void slip() {
        s.of("Terms 1", "NUMBERS 0 to 11 stand on THE SLIP in 3 LINES (a NUMBER by 4) and 4 COLUMNS (the rest).");
        SlipWeeks x = new SlipWeeks();
        SlipWeeks y = new SlipWeeks();
        y.people(2, 1);
        int[][] columns = {{0, 4, 8}, {1, 5, 9}, {2, 6, 10}, {3, 7, 11}};
        for (int p = 0; p < 495; p++) {
            int row = x.row(p);
            int want = row == 15 || row == 240 || row == 3840 ? 21 : 1;
            for (int[] c : columns) {
                want += (row >> c[0] & row >> c[1] & row >> c[2] & 1) == 1 ? 10 : 0;
            }
            s.is("likes(0, " + p + ") of the row " + row, y.likes(0, p), want);
        }
        s.is("due(0)", y.due(0), 0);
        s.is("due(11)", y.due(11), 0);
        s.is("due(-1)", y.due(-1), Due.BEYOND);
        s.is("due(12)", y.due(12), Due.BEYOND);
    }

    /** What people of a kind like a row, without a liking and a week. */
    private static int likes(int kind, int row) {
        SlipWeeks x = new SlipWeeks();
        x.people(kind, 495);
        return x.likes(0, x.place(row));
    }

    private void rows() {
        s.of("Terms 1", "A ROW is a set of just four of them; ROWS have PLACES 0 to 494, by their bits, the lesser first.");
        int place = 0;
        for (int set = 0; set < 4096; set++) {
            SlipWeeks x = new SlipWeeks();
            boolean row = Integer.bitCount(set) == 4;
            s.is("place(" + set + ")", x.place(set), row ? place : Due.BEYOND);
            if (row) {
                s.is("row(" + place + ")", x.row(place), set);
                place++;
            }
        }
        s.is("rows", place, 495);
    }

    private void ranks() {
        s.of("Terms 1", "RANK of a ROW by a DRAW (a ROW, too): how many NUMBERS they have in common.");
        SlipWeeks x = new SlipWeeks();
        x.people(0, 1);
        Due.liking(x, "d");
        x.told(bits(0, 1, 10, 11));
        int[][] ofRank = {{2, 3, 4, 5}, {2, 3, 4, 11}, {1, 3, 4, 10}, {0, 1, 9, 11}, {0, 1, 10, 11}};
        for (int rank = 0; rank < 5; rank++) {
            int[] n = ofRank[rank];
            s.is("rank " + rank, x.likes(0, x.place(bits(n[0], n[1], n[2], n[3]))), rank);
        }
    }

    private void peopleAndKinds() {
        s.of("Terms 1", "PEOPLE 0, 1, .. (at most 12) are of KINDS: 0 CROSS, 1 BORN under CROSS, 2 DRAWN under CROSS, "
            + "3 MACHINE under CROSS, 4 LAST under CROSS, 5 LUCKY under BORN, 6 SOUGHT under MACHINE, 7 BOUGHT under SOUGHT; "
            + "each so MANY (0 to 99999).");
        int[][] under = {{0}, {0, 1}, {0, 2}, {0, 3}, {0, 4}, {0, 1, 5}, {0, 3, 6}, {0, 3, 6, 7}};
        SlipWeeks x = new SlipWeeks();
        for (int kind = 0; kind < 8; kind++) {
            s.is("people(" + kind + ", ..)", x.people(kind, 99990 + kind), kind);
            for (int other = 0; other < 8; other++) {
                boolean is = false;
                for (int k : under[kind]) {
                    is |= k == other;
                }
                s.is("kind " + kind + " as " + other, x.as(kind, other), is ? 99990 + kind : Due.KIND);
            }
        }
        s.is("the ninth", x.people(0, 0), 8);
        s.is("the tenth", x.people(0, 99999), 9);
        s.is("the eleventh", x.people(0, 1), 10);
        s.is("the twelfth", x.people(0, 1), 11);
        s.is("the thirteenth", x.people(0, 1), Due.FULL);
        s.is("as(8, 0), of none", x.as(8, 0), 0);
        s.is("as(9, 0), of the most", x.as(9, 0), 99999);
    }

    private void likesOfLiking() {
        s.of("Terms 1", "LIKES of PEOPLE for a ROW: CROSS: what THE LIKING says (0 to 99; without one 1).");
        SlipWeeks x = new SlipWeeks();
        x.people(0, 1);
        s.is("without a liking", x.likes(0, 7), 1);
        String[] texts = {"0-1", "0", "1", "98", "99", "100", "999"};
        int[] want = {0, 0, 1, 98, 99, 99, 99};
        for (int i = 0; i < texts.length; i++) {
            s.is("liking() of " + texts[i], Due.liking(x, texts[i]), 0);
            s.is("likes by " + texts[i], x.likes(0, 7), want[i]);
        }
        x.even();
        s.is("without one again", x.likes(0, 7), 1);
    }

    private void likesOfKinds() {
        s.of("Terms 1", "BORN: as CROSS, and 2 for each NUMBER of it below 6.");
        s.is("6 7 8 9", likes(1, bits(6, 7, 8, 9)), 1);
        s.is("5 6 7 8", likes(1, bits(5, 6, 7, 8)), 3);
        s.is("4 5 6 7", likes(1, bits(4, 5, 6, 7)), 5);
        s.is("2 3 4 5", likes(1, bits(2, 3, 4, 5)), 9);
        s.is("0 6 7 11", likes(1, bits(0, 6, 7, 11)), 3);
        s.is("with the most of a liking, which is held and not this", liked(1, "100", bits(0, 1, 2, 3)), 107);
        s.of("Terms 1", "DRAWN: as CROSS, and 20 if all stand in one LINE, 10 if three of them stand in one COLUMN.");
        s.is("3 4 5 6, in two lines", likes(2, bits(3, 4, 5, 6)), 1);
        s.is("4 5 6 7", likes(2, bits(4, 5, 6, 7)), 21);
        s.is("0 4 8 11", likes(2, bits(0, 4, 8, 11)), 11);
        s.is("0 4 7 11, two in each of two columns", likes(2, bits(0, 4, 7, 11)), 1);
        s.is("with a liking", liked(2, "99", bits(8, 9, 10, 11)), 119);
        s.of("Terms 1", "MACHINE: 1.");
        s.is("with a liking", liked(3, "0", bits(0, 1, 2, 3)), 1);
        s.is("with another", liked(3, "99", bits(7, 8, 9, 10)), 1);
        s.of("Terms 1", "LAST: as CROSS, and 3 times its RANK by the latest DRAW (0 without one).");
        SlipWeeks x = new SlipWeeks();
        x.people(4, 1);
        s.is("without a draw", x.likes(0, 0), 1);
        x.told(bits(0, 1, 10, 11));
        s.is("rank 2", x.likes(0, 0), 7);
        x.told(bits(8, 9, 10, 11));
        s.is("rank 0 by the latest", x.likes(0, 0), 1);
        s.is("rank 4 by the latest", x.likes(0, 494), 13);
        s.is("rank 3 by the latest", x.likes(0, x.place(bits(0, 9, 10, 11))), 10);
        s.of("Terms 1", "LUCKY: twice what BORN does if 7 is among them, else as BORN.");
        s.is("6 8 9 10", likes(5, bits(6, 8, 9, 10)), 1);
        s.is("6 7 9 10", likes(5, bits(6, 7, 9, 10)), 2);
        s.is("0 1 2 7", likes(5, bits(0, 1, 2, 7)), 14);
        s.is("0 1 2 8", likes(5, bits(0, 1, 2, 8)), 7);
        s.is("with the most of a liking", liked(5, "99", bits(0, 1, 2, 7)), 210);
        s.of("Terms 1", "SOUGHT: what a MACHINE does, and 1 for each NUMBER of it that is 8 or more.");
        s.is("4 5 6 7", likes(6, bits(4, 5, 6, 7)), 1);
        s.is("5 6 7 8", likes(6, bits(5, 6, 7, 8)), 2);
        s.is("8 9 10 11", likes(6, bits(8, 9, 10, 11)), 5);
        s.is("with a liking", liked(6, "50", bits(0, 1, 2, 11)), 2);
    }

    private static int liked(int kind, String text, int row) {
        SlipWeeks x = new SlipWeeks();
        x.people(kind, 495);
        Due.liking(x, text);
        return x.likes(0, x.place(row));
    }

    private void likesOfBought() {
        s.of("Terms 1", "BOUGHT: as SOUGHT, if the ROW's PLACE is below MANY, else 0.");
        SlipWeeks x = new SlipWeeks();
        x.people(7, 0);
        s.is("likes(0, 0) of none", x.likes(0, 0), 0);
        x.many(0, 1);
        s.is("likes(0, 0) of one", x.likes(0, 0), 1);
        s.is("likes(0, 1) of one", x.likes(0, 1), 0);
        x.many(0, 494);
        s.is("likes(0, 493) of 494", x.likes(0, 493), 4);
        s.is("likes(0, 494) of 494", x.likes(0, 494), 0);
        x.many(0, 495);
        s.is("likes(0, 494) of 495", x.likes(0, 494), 5);
        x.many(0, 99999);
        s.is("likes(0, 494) of 99999", x.likes(0, 494), 5);
    }

    private void crossedOfRows() {
        s.of("Terms 1", "CROSSED of a ROW by PEOPLE: MANY times LIKES by what they LIKE all ROWS together (0 if that is 0); "
            + "by all PEOPLE together, and crosses that were BOUGHT by hand (at most 40 ROWS, each so often).");
        SlipWeeks x = new SlipWeeks();
        s.is("by nobody", x.crossed(-1, 0), 0);
        x.people(3, 494);
        s.is("494 by 495", x.crossed(0, 0), 0);
        x.many(0, 495);
        s.is("495 by 495", x.crossed(0, 0), 1);
        x.many(0, 99999);
        s.is("99999 by 495", x.crossed(0, 0), 202);
        x.people(7, 0);
        s.is("by those that like no row", x.crossed(1, 0), 0);
        x.many(1, 1);
        s.is("1 by 1", x.crossed(1, 0), 1);
        x.many(1, 2);
        s.is("2 by 2", x.crossed(1, 0), 1);
        x.people(0, 99999);
        Due.liking(x, "0");
        s.is("by those whose liking is nothing", x.crossed(2, 0), 0);
        // It alone is liked, as often as can be: the product goes to 99999 times 99.
        Due.liking(x, "(d-3?99:0)");
        x.told(15);
        s.is("by those that like one row alone", x.crossed(2, 0), 99999);
        s.is("and no other", x.crossed(2, 1), 0);
        x.buys(0, 5);
        x.buys(494, 6);
        s.is("all together", x.crossed(-1, 0), 202 + 1 + 99999 + 5);
        s.is("all together, the last", x.crossed(-1, 494), 202 + 6);
        s.is("by people alone", x.crossed(0, 494), 202);
        SlipWeeks y = Looks.fullOfBought();
        s.is("40 rows", y.count(3), 40);
        s.is("the 41st", y.buys(0, 1), Due.FULL);
    }

    private void newObject() {
        s.of("Promise 1", "No PEOPLE, no LIKING, no WEEKS; THE TAPE is empty, no image is kept.");
        SlipWeeks x = new SlipWeeks();
        s.is("count(0)", x.count(0), 0);
        s.is("of(0, 0)", x.of(0, 0), Due.BEYOND);
        s.is("even()", x.even(), 0);
        s.is("count(1)", x.count(1), 0);
        s.is("book(0, 0)", x.book(0, 0), Due.BEYOND);
        s.is("wipe()", x.wipe(), 0);
        s.is("undo()", x.undo(), Due.NONE);
        s.is("tear()", x.tear(), 0);
        s.is("status(-1)", x.status(-1), 3);
    }

    private void placeAndRow() {
        s.of("Promise 2", "PLACE of a ROW (bits).");
        s.is("place(15)", new SlipWeeks().place(15), 0);
        s.is("place(23)", new SlipWeeks().place(23), 1);
        s.is("place(3840)", new SlipWeeks().place(3840), 494);
        s.of("Promise 2", "BEYOND: not just four of 12.");
        int[] no = {0, 7, 31, 14, 4095, 4096, 4096 + 7, 4096 + 15, 7 << 9 | 1 << 12, MIN, MIN + 7, MIN + 15, -1, -15, -4096, MAX, 15 << 28};
        for (int row : no) {
            s.refused(Looks::settled, Due.BEYOND, "place", row);
        }
        s.of("Promise 3", "ROW of a PLACE.");
        s.is("row(0)", new SlipWeeks().row(0), 15);
        s.is("row(1)", new SlipWeeks().row(1), 23);
        s.is("row(494)", new SlipWeeks().row(494), 3840);
        s.of("Promise 3", "BEYOND.");
        for (int p : new int[] {-1, 495, MIN, MAX}) {
            s.refused(Looks::settled, Due.BEYOND, "row", p);
        }
    }

    private void people() {
        s.of("Promise 4", "New PEOPLE: their number.");
        SlipWeeks x = new SlipWeeks();
        for (int i = 0; i < 12; i++) {
            s.is("people, the next", x.people(i % 2 * 7, i % 3 == 0 ? 0 : 99999), i);
            s.is("of(" + i + ", 0)", x.of(i, 0), i % 2 * 7);
            s.is("of(" + i + ", 1)", x.of(i, 1), i % 3 == 0 ? 0 : 99999);
            s.is("count(0)", x.count(0), i + 1);
        }
        s.of("Promise 4", "BEYOND.");
        for (int kind : new int[] {-1, 8, MIN, MAX}) {
            s.refused(Looks::settled, Due.BEYOND, "people", kind, 1);
        }
        for (int many : new int[] {-1, 100000, MIN, MAX}) {
            s.refused(Looks::settled, Due.BEYOND, "people", 0, many);
        }
        s.of("Promise 4", "FULL.");
        s.refused(Looks::fullOfPeople, Due.FULL, "people", 0, 0);
        s.refused(Looks::fullOfPeople, Due.FULL, "people", 7, 99999);
    }

    private void ofAndMany() {
        s.of("Promise 5", "Of PEOPLE: what 0 KIND, 1 MANY.");
        SlipWeeks x = Looks.fullOfPeople();
        s.is("of(0, 0)", x.of(0, 0), 0);
        s.is("of(0, 1)", x.of(0, 1), 1000);
        s.is("of(11, 0)", x.of(11, 0), 2);
        s.is("of(11, 1)", x.of(11, 1), 80);
        s.of("Promise 5", "BEYOND.");
        for (int what : new int[] {-1, 2, MIN, MAX}) {
            s.refused(Looks::settled, Due.BEYOND, "of", 0, what);
        }
        nobody("of", 1);
        s.of("Promise 6", "MANY of PEOPLE becomes v: what it was.");
        s.is("many(11, 0)", x.many(11, 0), 80);
        s.is("many(11, 99999)", x.many(11, 99999), 0);
        s.is("many(11, 7)", x.many(11, 7), 99999);
        s.is("of(11, 1)", x.of(11, 1), 7);
        s.is("of(10, 1), the others stay", x.of(10, 1), 40);
        s.is("of(11, 0), the kind stays", x.of(11, 0), 2);
        s.of("Promise 6", "BEYOND.");
        for (int v : new int[] {-1, 100000, MIN, MAX}) {
            s.refused(Looks::settled, Due.BEYOND, "many", 0, v);
        }
        nobody("many", 5);
    }

    /** People that there are not: below 0, the next, the 13th. */
    private void nobody(String name, int second) {
        for (int p : new int[] {-1, 9, 12, MIN, MAX}) {
            s.refused(Looks::settled, Due.BEYOND, name, p, second);
        }
        s.refused(Looks::fullOfPeople, Due.BEYOND, name, 12, second);
        s.refused(SlipWeeks::new, Due.BEYOND, name, 0, second);
    }

    private void as() {
        s.of("Promise 7", "PEOPLE as some of a kind: MANY.");
        SlipWeeks x = Looks.settled();
        s.is("as(0, 0)", x.as(0, 0), 1000);
        s.is("as(7, 7)", x.as(7, 7), 4500);
        s.is("as(7, 0)", x.as(7, 0), 4500);
        s.is("as(8, 6)", x.as(8, 6), 700);
        s.of("Promise 7", "BEYOND: no such PEOPLE, kind.");
        for (int kind : new int[] {-1, 8, MIN, MAX}) {
            s.refused(Looks::settled, Due.BEYOND, "as", 0, kind);
        }
        for (int p : new int[] {-1, 9, MIN, MAX}) {
            s.refused(Looks::settled, Due.BEYOND, "as", p, 0);
        }
        s.of("Promise 7", "KIND: they aren't of that kind, nor of one under it.");
        s.refused(Looks::settled, Due.KIND, "as", 0, 1);
        s.refused(Looks::settled, Due.KIND, "as", 1, 5);
        s.refused(Looks::settled, Due.KIND, "as", 5, 2);
        s.refused(Looks::settled, Due.KIND, "as", 6, 7);
        s.refused(Looks::settled, Due.KIND, "as", 7, 1);
    }

    private void likesAndCrossed() {
        s.of("Promise 8", "LIKES of PEOPLE for a ROW (told by its PLACE).");
        SlipWeeks x = new SlipWeeks();
        x.people(6, 1155);
        s.is("likes(0, 0)", x.likes(0, 0), 1);
        s.is("likes(0, 494)", x.likes(0, 494), 5);
        s.of("Promise 8", "BEYOND.");
        noRow("likes", 0);
        nobody("likes", 0);
        s.of("Promise 9", "CROSSED of a ROW by PEOPLE (-1: by all, with what was BOUGHT).");
        x.buys(494, 3);
        s.is("crossed(0, 0)", x.crossed(0, 0), 1);
        s.is("crossed(0, 494)", x.crossed(0, 494), 5);
        s.is("crossed(-1, 494)", x.crossed(-1, 494), 8);
        s.is("crossed(-1, 0)", x.crossed(-1, 0), 1);
        s.is("crossed(-1, 0) without people", new SlipWeeks().crossed(-1, 0), 0);
        s.of("Promise 9", "BEYOND.");
        noRow("crossed", 0);
        noRow("crossed", -1);
        for (int p : new int[] {-2, 9, 12, MIN, MAX}) {
            s.refused(Looks::settled, Due.BEYOND, "crossed", p, 0);
        }
        s.refused(SlipWeeks::new, Due.BEYOND, "crossed", 0, 0);
        s.refused(Looks::fullOfPeople, Due.BEYOND, "crossed", 12, 0);
    }

    private void noRow(String name, int people) {
        for (int p : new int[] {-1, 495, MIN, MAX}) {
            s.refused(Looks::settled, Due.BEYOND, name, people, p);
        }
    }

    private void buys() {
        s.of("Promise 10", "So many crosses (1 to 9999) of a ROW are BOUGHT by hand: how often it was by now.");
        SlipWeeks x = new SlipWeeks();
        s.is("buys(0, 1)", x.buys(0, 1), 1);
        s.is("buys(0, 9999)", x.buys(0, 9999), 10000);
        s.is("buys(494, 9999)", x.buys(494, 9999), 9999);
        s.is("shares(0)", x.shares(0), 10000);
        s.is("shares(494)", x.shares(494), 9999);
        s.is("count(3)", x.count(3), 2);
        s.of("Promise 10", "BEYOND.");
        for (int n : new int[] {0, -1, 10000, MIN, MAX}) {
            s.refused(Looks::settled, Due.BEYOND, "buys", 5, n);
        }
        for (int p : new int[] {-1, 495, MIN, MAX}) {
            s.refused(Looks::settled, Due.BEYOND, "buys", p, 1);
        }
        s.of("Promise 10", "FULL: it would be the 41st ROW, or more than 99999 of one.");
        x = Looks.fullOfBought();
        s.is("the 40th row, once more", x.buys(363, 1), 39);
        s.is("the most of one", x.shares(5) - Looks.settled().shares(5), 99999 - 12);
        s.refused(Looks::fullOfBought, Due.FULL, "buys", 0, 1);
        s.refused(Looks::fullOfBought, Due.FULL, "buys", 494, 9999);
        s.refused(Looks::fullOfBought, Due.FULL, "buys", 5, 1);
        s.refused(Looks::fullOfBought, Due.FULL, "buys", 5, 9999);
        Supplier<SlipWeeks> lessOne = () -> nearlyFull(99998);
        s.refused(lessOne, Due.FULL, "buys", 7, 2);
        s.is("just 99999", nearlyFull(99998).buys(7, 1), 99999);
    }

    private static SlipWeeks nearlyFull(int times) {
        SlipWeeks x = new SlipWeeks();
        for (int left = times; left > 0; left -= 9999) {
            x.buys(7, Math.min(left, 9999));
        }
        return x;
    }

    private void returned() {
        s.of("Promise 11", "Nothing is BOUGHT by hand any more: how many crosses were.");
        SlipWeeks x = new SlipWeeks();
        s.is("returned() of nothing", x.returned(), 0);
        x.people(3, 495);
        x.buys(9, 4);
        x.buys(9, 5);
        x.buys(494, 1);
        s.is("shares(9)", x.shares(9), 10);
        s.is("returned()", x.returned(), 10);
        s.is("returned() again", x.returned(), 0);
        s.is("count(3)", x.count(3), 0);
        s.is("shares(9), people's stay", x.shares(9), 1);
        s.is("count(2)", x.count(2), 495);
        s.is("buys(9, 1), from the first on", x.buys(9, 1), 1);
        x = new SlipWeeks();
        x.buys(10, 1);
        x.buys(11, 2);
        x.buys(12, 3);
        x.returned();
        s.is("buys(12, 4), the last of them first", x.buys(12, 4), 4);
        s.is("count(3)", x.count(3), 1);
        s.is("count(2)", x.count(2), 4);
        s.is("shares(10)", x.shares(10), 0);
        s.is("returned()", x.returned(), 4);
        x = Looks.fullOfBought();
        s.is("returned() of 40 rows", x.returned(), 99999 + 7 + 38 * 39 / 2);
        for (int p = 0; p < 40; p++) {
            s.is("buys of forty others", x.buys(p, 1), 1);
        }
        s.is("buys of the 41st", x.buys(40, 1), Due.FULL);
    }
}
