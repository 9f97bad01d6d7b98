/** Sentences of section 2 and of promises 12 to 15: the tape, the liking. */
final class LikingSentences {
    private static final int MIN = Integer.MIN_VALUE;
    private static final int MAX = Integer.MAX_VALUE;
    private static final int NONE = -1;
    private final Sentences s;

    LikingSentences(Sentences s) {
        this.s = s;
    }

    void run() {
        tapeOfSixty();
        sums();
        products();
        factors();
        signs();
        open();
        ints();
        names();
        faults();
        feed();
        wipe();
        liking();
        even();
    }

    private void fault(String text, int place) {
        SlipWeeks x = new SlipWeeks();
        s.is("liking() of " + text, Due.liking(x, text), place == NONE ? 0 : -1 - place);
    }

    /** Behind two weeks, of which the latest draw is 3 4 5 6. */
    private void says(String text, int row, int want) {
        SlipWeeks x = new SlipWeeks();
        x.people(0, 1);
        x.told(0b011110000000);
        x.told(0b000001111000);
        s.is("liking() of " + text, Due.liking(x, text), 0);
        s.is(text + " of the row " + row, x.likes(0, x.place(row)), want);
    }

    private void tapeOfSixty() {
        s.of("Terms 2", "THE LIKING is a TEXT, read from THE TAPE (bytes, at most 60): E just one.");
        fault("", 0);
        fault("7", NONE);
        fault("7+".repeat(29) + "7", NONE);
        fault("7+".repeat(29) + "77", NONE);
        says("1+".repeat(29) + "10", 15, 39);
        says("7", 15, 7);
        fault("7 7", 1);
        fault("(7)(7)", 3);
        fault("ss", 1);
    }

    private void sums() {
        s.of("Terms 2", "E: T { + or - T }.");
        says("9-3-2", 15, 4);
        says("9-3+2", 15, 8);
        says("1+2+3", 15, 6);
        fault("+1", 0);
        fault("-1", 0);
        fault("1+", 2);
        fault("1-", 2);
        fault("1++1", 2);
        fault("1+-1", 2);
        s.of("Terms 2", "T: F { * F }.");
    }

    private void products() {
        says("2*3*4", 15, 24);
        says("2+3*4", 15, 14);
        says("2*3+4", 15, 10);
        says("20-2*3*3", 15, 2);
        fault("*2", 0);
        fault("2*", 2);
        fault("2**2", 2);
        fault("2/1", 1);
    }

    private void factors() {
        s.of("Terms 2", "F: NUMBER of 1 to 3 digits, NAME, ( E ), or ( E ? E : E ) "
            + "(what is behind the ? if the first is above 0, else what is behind the :).");
        says("9", 15, 9);
        says("0", 15, 0);
        says("98", 15, 98);
        says("999-901", 15, 98);
        says("000", 15, 0);
        says("007", 15, 7);
        fault("000", NONE);
        fault("0000", 3);
        fault("1234", 3);
        fault("1+12345", 5);
        fault("/", 0);
        fault(":", 0);
        says("(7)", 15, 7);
        says("(2+3)*4", 15, 20);
        says("(1?2:3)", 15, 2);
        says("(0?2:3)", 15, 3);
        says("(0-1?2:3)", 15, 3);
        says("(2?2:3)", 15, 2);
        says("((1?0:1)?4:(0?5:6))", 15, 6);
        says("(1?2+3*4:5)*2", 15, 28);
        fault("()", 1);
        fault("(1", 2);
        fault("(1?", 3);
        fault("(1?2", 4);
        fault("(1?2)", 4);
        fault("(1?2:", 5);
        fault("(1?2:3", 6);
        fault("(1?2:3:4)", 6);
        fault("(1?2?3:4)", 4);
        fault("(1:2)", 2);
        fault("(?1:2)", 1);
        fault("1?2:3", 1);
        fault("1)", 1);
        fault("s1", 1);
        fault("1s", 1);
        fault("1(2)", 1);
        fault("(2)1", 3);
    }

    private void signs() {
        s.of("Terms 2", "No blanks.");
        fault(" 1", 0);
        fault("1 ", 1);
        fault("1 +1", 1);
        fault("1+ 1", 2);
        fault("( 1)", 1);
        fault("1\t", 1);
        fault("1\n", 1);
        fault("1\u0000", 1);
    }

    private void open() {
        s.of("Terms 2", "At most 4 of ( are open at once.");
        fault("((((1))))", NONE);
        says("((((7))))", 15, 7);
        fault("(((((1)))))", 4);
        fault("((((1)+(1))))", NONE);
        fault("((((1)+((1)))))", 8);
        fault("((((1))))+((((1))))", NONE);
        fault("(1?(1?(1?(1?2:3):3):3):3)", NONE);
        fault("(1?(1?(1?(1?(2):3):3):3):3)", 12);
        fault("(1?(1?(1?(1?2:(3)):3):3):3)", 14);
        fault("(1?2:(1?2:(1?2:(1?2:3))))", NONE);
        fault("(1?2:(1?2:(1?2:(1))))", NONE);
        fault("(1?2:(1?2:(1?2:((1)))))", 16);
    }

    private void ints() {
        s.of("Terms 2", "Ints that go round; held within 0 to 99 at last.");
        says("99", 15, 99);
        says("100", 15, 99);
        says("0-1", 15, 0);
        says("0-999", 15, 0);
        says("200-150", 15, 50);
        says("1-2+3", 15, 2);
        says("0-3*2+9", 15, 3);
        // 256 * 128 * 256 * 256 is 2147483648, which is the least int.
        says("256*128*256*256", 15, 0);
        says("256*128*256*256-1", 15, 99);
        says("(256*128*256*256?1:2)", 15, 2);
        says("(256*128*256*256-1?1:2)", 15, 1);
        says("(256*128*256*256-1+1?1:2)", 15, 2);
        says("(256*256*256*256?1:2)", 15, 2);
        says("256*256*256*256+7", 15, 7);
        says("999*999*999*999-999*999*999*999+5", 15, 5);
    }

    private void names() {
        s.of("Terms 2", "NAMES: s the sum of its NUMBERS, l the least, g the greatest, e how many are even, "
            + "c the greatest number of them one behind the other (as 4 5 6), d its RANK by the latest DRAW (0 without one), "
            + "w how many WEEKS there were.");
        names(RowSentences.bits(0, 1, 2, 3), 6, 0, 3, 2, 4, 1);
        names(RowSentences.bits(8, 9, 10, 11), 38, 8, 11, 2, 4, 0);
        names(RowSentences.bits(3, 4, 5, 6), 18, 3, 6, 2, 4, 4);
        names(RowSentences.bits(1, 4, 5, 6), 16, 1, 6, 2, 3, 3);
        names(RowSentences.bits(4, 5, 6, 8), 23, 4, 8, 3, 3, 3);
        names(RowSentences.bits(0, 2, 4, 6), 12, 0, 6, 4, 1, 2);
        names(RowSentences.bits(1, 3, 9, 11), 24, 1, 11, 0, 1, 1);
        names(RowSentences.bits(0, 1, 10, 11), 22, 0, 11, 2, 2, 0);
        names(RowSentences.bits(0, 1, 3, 11), 15, 0, 11, 1, 2, 1);
        names(RowSentences.bits(0, 9, 10, 11), 30, 0, 11, 2, 3, 0);
        for (int c = 1; c < 256; c++) {
            String sign = String.valueOf((char) c);
            boolean good = "slgecdw0123456789".indexOf(c) >= 0;
            fault(sign, good ? NONE : c == '(' ? 1 : 0);
        }
        SlipWeeks x = new SlipWeeks();
        x.people(0, 1);
        Due.liking(x, "d*10+w");
        s.is("d and w without a week", x.likes(0, 0), 0);
        for (int week = 1; week <= 40; week++) {
            x.told(week == 40 ? 15 : 240);
            s.is("d and w behind week " + week, x.likes(0, 0), (week == 40 ? 40 : 0) + week);
        }
    }

    private void names(int row, int sum, int least, int greatest, int even, int chain, int rank) {
        says("s", row, sum);
        says("l", row, least);
        says("g", row, greatest);
        says("e", row, even);
        says("c", row, chain);
        says("d", row, rank);
        says("w", row, 2);
    }

    private void faults() {
        s.of("Terms 2", "FAULT: the place of the first byte with which no TEXT goes on; how many there are, if it ends too early.");
        fault("x", 0);
        fault("x+", 0);
        fault("1+x+y", 2);
        fault(")", 0);
        fault("", 0);
        fault("(", 1);
        fault("((((", 4);
        fault("(((((", 4);
        fault("1+(2*3", 6);
        fault("1+".repeat(30), 60);
        fault("1+".repeat(29) + "1x", 59);
        fault("(" + "1+".repeat(29) + "1", 60);
        fault("1+".repeat(28) + "1234", 59);
    }

    private void feed() {
        s.of("Promise 12", "THE TAPE gets the n lowest bytes of a number behind it, the highest of these first (n 1 to 4): how many it has.");
        for (int n = 1; n <= 4; n++) {
            SlipWeeks x = new SlipWeeks();
            x.people(0, 1);
            // What stands above the n lowest bytes would be a fault.
            s.is("feed of '1+'", x.feed(0x312b, 2), 2);
            int[] number = {0, 0x2a2b2837, 0x2a2b3532, 0x7f322a33, 0x342d2d2d};
            int[] want = {0, 8, 53, 7, 0};
            s.is("feed of " + n, x.feed(number[n], n), 2 + n);
            s.is("liking()", x.liking(), n == 4 ? -5 : 0);
            s.is("likes", x.likes(0, 0), n == 4 ? 1 : want[n]);
        }
        SlipWeeks x = new SlipWeeks();
        x.people(0, 1);
        s.is("feed of 9*3+", x.feed(0x392a332b, 4), 4);
        s.is("feed of all bits but 8", x.feed(0xffffff38, 1), 5);
        s.is("liking()", x.liking(), 0);
        s.is("likes", x.likes(0, 0), 35);
        s.is("feed of a byte with its highest bit", x.feed(-1, 1), 1);
        s.is("feed of such ones", x.feed(MIN, 4), 5);
        s.is("liking()", x.liking(), -1);
        s.of("Promise 12", "BEYOND: n.");
        for (int n : new int[] {0, 5, -1, MIN, MAX}) {
            s.refused(Looks::settled, Due.BEYOND, "feed", 0x31313131, n);
        }
        s.of("Promise 12", "FULL.");
        s.refused(Looks::fullOfTape, Due.FULL, "feed", 0x31313131, 3);
        s.refused(Looks::fullOfTape, Due.FULL, "feed", 0x31313131, 4);
        x = Looks.fullOfTape();
        s.is("feed of the 59th", x.feed('1', 1), 59);
        s.is("feed of the 60th and 61st", x.feed(0x3131, 2), Due.FULL);
        s.is("feed of the 60th", x.feed('1', 1), 60);
        s.is("feed of the 61st", x.feed('1', 1), Due.FULL);
        s.is("count(5)", x.count(5), 60);
        s.is("liking() of 60", x.liking(), 0);
        s.is("feed on the empty one", x.feed('1', 1), 1);
        s.is("feed of just 60", Looks.fullOfTape().feed(0x3131, 2), 60);
    }

    private void wipe() {
        s.of("Promise 13", "THE TAPE is empty: how many it had.");
        SlipWeeks x = Looks.fullOfTape();
        x.feed(0x3131, 2);
        s.is("wipe() of 60", x.wipe(), 60);
        s.is("wipe() of none", x.wipe(), 0);
        s.is("count(5)", x.count(5), 0);
        s.is("feed, from the first on", x.feed('3', 1), 1);
        s.is("the liking stays", x.count(4), 1);
        s.is("liking()", x.liking(), 0);
        s.is("likes(0, 0)", x.likes(0, 0), 3);
    }

    private void liking() {
        s.of("Promise 14", "THE TAPE is THE LIKING: 0; THE TAPE is empty then.");
        SlipWeeks x = new SlipWeeks();
        x.people(0, 495);
        s.is("liking() of 3", Due.liking(x, "3"), 0);
        s.is("count(5)", x.count(5), 0);
        s.is("count(4)", x.count(4), 1);
        s.is("likes(0, 9)", x.likes(0, 9), 3);
        s.is("liking() of a longer one", Due.liking(x, "1+1+1+1+1"), 0);
        s.is("likes(0, 9)", x.likes(0, 9), 5);
        s.is("liking() of a shorter one", Due.liking(x, "d"), 0);
        s.is("crossed(0, 9), anew", x.crossed(0, 9), 0);
        s.of("Promise 14", "With a FAULT: -1 less the FAULT (THE TAPE, THE LIKING stay; no finding).");
        Due.liking(x, "8");
        s.is("liking() of nothing", x.liking(), -1);
        s.is("likes(0, 9)", x.likes(0, 9), 8);
        s.is("liking() of (2+", Due.liking(x, "(2+"), -4);
        s.is("liking() of it again", x.liking(), -4);
        s.is("likes(0, 9)", x.likes(0, 9), 8);
        s.is("count(4)", x.count(4), 1);
        s.is("count(5)", x.count(5), 3);
        Due.tape(x, "4)");
        s.is("liking() of (2+4)", x.liking(), 0);
        s.is("likes(0, 9)", x.likes(0, 9), 6);
        s.is("liking() of all 60 with a fault at their end", Due.liking(x, "1+".repeat(30)), -61);
        s.is("status(-1)", x.status(-1), 0);
        SlipWeeks y = new SlipWeeks();
        s.is("liking() of x, without one", Due.liking(y, "x"), -1);
        s.is("count(4)", y.count(4), 0);
        s.is("count(5)", y.count(5), 1);
        s.is("status(-1)", y.status(-1), 0);
    }

    private void even() {
        s.of("Promise 15", "There is no LIKING: 1 if there was, else 0.");
        SlipWeeks x = new SlipWeeks();
        x.people(0, 495);
        s.is("even() without one", x.even(), 0);
        Due.liking(x, "0");
        s.is("crossed(0, 9) of what likes nothing", x.crossed(0, 9), 0);
        Due.tape(x, "7");
        s.is("even()", x.even(), 1);
        s.is("even() again", x.even(), 0);
        s.is("count(4)", x.count(4), 0);
        s.is("the tape stays", x.count(5), 1);
        s.is("likes(0, 9)", x.likes(0, 9), 1);
        s.is("crossed(0, 9)", x.crossed(0, 9), 1);
    }
}
