import java.util.Arrays;

/**
 * Rows of four out of twelve, the people that cross them, the weeks that are drawn,
 * and what a cross is worth. Every act checks its arguments first, in the document's
 * order, so that one that tells a finding has changed nothing.
 */
public final class SlipWeeks {
    private static final int FIRST_FINDING = -1000000001;
    private static final int BEYOND = 0;
    private static final int FULL = 1;
    private static final int KIND = 2;
    private static final int NONE = 3;
    private static final int MISSING = 5;
    private static final int SIZE = 6;
    private static final int FINDING_KINDS = 7;

    private static final int NUMBERS = 12;
    private static final int ALL_NUMBERS = 4095;
    private static final int IN_A_ROW = 4;
    private static final int ROWS = 495;
    private static final int TRIPLES = 220;
    private static final int PAIRS = 66;
    // How many pairs, and how many triples, have all their numbers below a number.
    private static final int[] PAIRS_BELOW = {0, 0, 1, 3, 6, 10, 15, 21, 28, 36, 45, 55};
    private static final int[] TRIPLES_BELOW = {0, 0, 0, 1, 4, 10, 20, 35, 56, 84, 120, 165};
    private static final int LEAST_RANK = 2;

    private static final int KINDS = 8;
    private static final int[] KIND_ABOVE = {-1, 0, 0, 0, 0, 1, 3, 6};
    private static final int PEOPLE_LIMIT = 12;
    private static final int MANY_LIMIT = 99999;
    private static final int BOUGHT_ROWS = 40;
    private static final int BOUGHT_AT_ONCE = 9999;
    private static final int BOUGHT_OF_ONE = 99999;
    private static final int TAPE_LIMIT = 60;

    private static final int PRICE = 0;
    private static final int PART = 1;
    private static final int TAX = 5;
    private static final int FREE = 6;
    private static final int POT = 7;
    private static final int RULE_PARTS = 8;
    private static final int POT_LIMIT = 99999999;
    private static final int[] RULE_LEAST = {1, 0, 0, 0, 0, 0, 0, 0};
    private static final int[] RULE_MOST = {99, 100, 100, 100, 100, 100, 999999, POT_LIMIT};
    private static final int[] RULE_FIRST = {1, 50, 60, 30, 10, 0, 0, 0};

    private static final int BOOK_LIMIT = 40;
    private static final int BOOK_CELLS = 8;
    private static final int LOTS_BOUND = 1000000;
    private static final int SEEKERS_LIMIT = 200;
    private static final int SHEETS = 4;
    private static final int SHEET_LIMIT = 40;

    private final State state;
    private final State kept;
    private final Slip slip;
    private final Crowd crowd;
    private final Worths worths;
    private final LikingReader reader;
    private final byte[] tape;
    private final Sheet[] sheets;
    private final int[] findings;
    private int tapeSize;
    private boolean keeps;

    public SlipWeeks() {
        state = new State();
        kept = new State();
        slip = new Slip();
        Overlaps overlaps = new Overlaps(slip);
        crowd = new Crowd(state, slip, overlaps);
        worths = new Worths(state, slip, crowd, overlaps);
        reader = new LikingReader();
        tape = new byte[TAPE_LIMIT];
        sheets = new Sheet[SHEETS];
        for (int s = 0; s < SHEETS; s++) {
            sheets[s] = new Sheet();
        }
        findings = new int[FINDING_KINDS];
    }

    // ---- rows, people

    public int place(int row) {
        return isRow(row) ? Slip.placeOf(row) : tell(BEYOND);
    }

    public int row(int place) {
        return isPlace(place) ? slip.bits[place] : tell(BEYOND);
    }

    public int people(int kind, int many) {
        if (!within(kind, 0, KINDS - 1) || !within(many, 0, MANY_LIMIT)) {
            return tell(BEYOND);
        }
        if (state.groups >= PEOPLE_LIMIT) {
            return tell(FULL);
        }
        int made = state.groups;
        state.kinds[made] = kind;
        state.manys[made] = many;
        state.groups = made + 1;
        crowd.stir();
        return made;
    }

    public int of(int people, int what) {
        if (!isPeople(people) || !within(what, 0, 1)) {
            return tell(BEYOND);
        }
        return what == 0 ? state.kinds[people] : state.manys[people];
    }

    public int many(int people, int v) {
        if (!isPeople(people) || !within(v, 0, MANY_LIMIT)) {
            return tell(BEYOND);
        }
        int before = state.manys[people];
        state.manys[people] = v;
        crowd.stir();
        return before;
    }

    public int as(int people, int kind) {
        if (!isPeople(people) || !within(kind, 0, KINDS - 1)) {
            return tell(BEYOND);
        }
        return isUnder(state.kinds[people], kind) ? state.manys[people] : tell(KIND);
    }

    public int likes(int people, int place) {
        if (!isPeople(people) || !isPlace(place)) {
            return tell(BEYOND);
        }
        crowd.settle();
        return crowd.likingOf(state.kinds[people], state.manys[people], place);
    }

    public int crossed(int people, int place) {
        if (people != -1 && !isPeople(people) || !isPlace(place)) {
            return tell(BEYOND);
        }
        crowd.settle();
        return people == -1 ? crowd.crosses[place] : crowd.crossesBy(state.kinds[people], state.manys[people], place);
    }

    public int buys(int place, int n) {
        if (!isPlace(place) || !within(n, 1, BOUGHT_AT_ONCE)) {
            return tell(BEYOND);
        }
        int at = state.boughtAt(place);
        if (at >= BOUGHT_ROWS) {
            return tell(FULL);
        }
        int before = at < state.boughtRows ? state.boughtTimes[at] : 0;
        if (before + n > BOUGHT_OF_ONE) {
            return tell(FULL);
        }
        state.boughtPlaces[at] = place;
        state.boughtTimes[at] = before + n;
        state.boughtRows = Math.max(state.boughtRows, at + 1);
        crowd.stir();
        return before + n;
    }

    public int returned() {
        int all = 0;
        for (int i = 0; i < state.boughtRows && i < BOUGHT_ROWS; i++) {
            all += state.boughtTimes[i];
        }
        state.boughtRows = 0;
        crowd.stir();
        return all;
    }

    // ---- the liking

    public int feed(int bytes, int n) {
        if (!within(n, 1, 4)) {
            return tell(BEYOND);
        }
        if (tapeSize + n > TAPE_LIMIT) {
            return tell(FULL);
        }
        for (int left = n - 1; left >= 0; left--) {
            tape[tapeSize] = (byte) (bytes >> 8 * left);
            tapeSize++;
        }
        return tapeSize;
    }

    public int wipe() {
        int had = tapeSize;
        tapeSize = 0;
        return had;
    }

    public int liking() {
        int fault = reader.faultOf(tape, tapeSize);
        if (fault >= 0) {
            return -1 - fault;
        }
        state.codeSize = reader.putCodeInto(state.code);
        tapeSize = 0;
        crowd.stir();
        return 0;
    }

    public int even() {
        int had = state.hasLiking() ? 1 : 0;
        state.codeSize = 0;
        crowd.stir();
        return had;
    }

    // ---- weeks

    public int rule(int what, int v) {
        if (!within(what, 0, RULE_PARTS - 1) || !within(v, RULE_LEAST[what], RULE_MOST[what])) {
            return tell(BEYOND);
        }
        int before = state.rule[what];
        state.rule[what] = v;
        return before;
    }

    public int seed(int v) {
        int before = state.z;
        state.z = v;
        return before;
    }

    public int week() {
        if (state.isBookFull()) {
            return tell(FULL);
        }
        int draw = drawByLots();
        holdWeek(draw);
        return draw;
    }

    public int told(int draw) {
        if (!isRow(draw)) {
            return tell(BEYOND);
        }
        if (state.isBookFull()) {
            return tell(FULL);
        }
        holdWeek(draw);
        return state.bookCell(state.weekCount - 1, 1);
    }

    public int book(int week, int what) {
        if (!within(week, 0, state.weekCount - 1) || !within(what, 0, BOOK_CELLS - 1)) {
            return tell(BEYOND);
        }
        return state.bookCell(week, what);
    }

    // ---- what it is worth

    public int now() {
        crowd.settle();
        return (int) state.potWithIn(state.rule[POT], crowd.total);
    }

    public int worth(int place) {
        if (!isPlace(place)) {
            return tell(BEYOND);
        }
        crowd.settleWinners();
        return (int) worths.worthOf(place, state.rule[POT]);
    }

    public int best(int what) {
        if (!within(what, 0, 1)) {
            return tell(BEYOND);
        }
        crowd.settleWinners();
        int first = worths.bestPlace();
        return what == 0 ? first : (int) worths.worthOf(first, state.rule[POT]);
    }

    public int alone(int what) {
        if (!within(what, 0, 1)) {
            return tell(BEYOND);
        }
        crowd.settle();
        int first = -1;
        int found = 0;
        for (int p = ROWS - 1; p >= 0; p--) {
            if (crowd.crosses[p] == 0) {
                first = p;
                found++;
            }
        }
        if (what == 0) {
            return found;
        }
        return first >= 0 ? first : tell(NONE);
    }

    public int line(int place) {
        if (!isPlace(place)) {
            return tell(BEYOND);
        }
        crowd.settleWinners();
        int pot = worths.leastPot(place);
        return pot >= 0 ? pot : tell(NONE);
    }

    public long house(int n) {
        if (!within(n, 1, ROWS)) {
            return tell(BEYOND);
        }
        crowd.settleWinners();
        return worths.houseOf(n);
    }

    public int seek(int m, int what) {
        if (!within(m, 1, SEEKERS_LIMIT) || !within(what, 0, 1)) {
            return tell(BEYOND);
        }
        crowd.settle();
        return worths.afterSeekers(m, what == 1);
    }

    public int shares(int place) {
        if (!isPlace(place)) {
            return tell(BEYOND);
        }
        crowd.settle();
        return crowd.crosses[place];
    }

    // ---- drums, what is felt

    public int due(int number) {
        if (!isNumber(number)) {
            return tell(BEYOND);
        }
        for (int since = 0; since < state.weekCount; since++) {
            if (state.cameIn(state.weekCount - 1 - since, number)) {
                return since;
            }
        }
        return state.weekCount;
    }

    public int came(int number) {
        return isNumber(number) ? state.timesOf(number) : tell(BEYOND);
    }

    public long drum() {
        long all = 0;
        for (int number = 0; number < NUMBERS; number++) {
            long off = state.timesOf(number) * 12L - state.weekCount * 4L;
            all += off * off;
        }
        return all;
    }

    public int felt(int number) {
        if (!isNumber(number)) {
            return tell(BEYOND);
        }
        int with = state.timesOf(number);
        int without = state.weekCount - with;
        if (with <= 0 || without <= 0) {
            return tell(NONE);
        }
        return state.rankTwoWinners(number, true) / with - state.rankTwoWinners(number, false) / without;
    }

    // ---- sheets

    public int sheet(int s, int bits, int n) {
        if (!isSheet(s) || bits != 0 && !Sheet.isWidth(bits)) {
            return tell(BEYOND);
        }
        if (n < 0) {
            return tell(SIZE);
        }
        if (n > SHEET_LIMIT) {
            return tell(BEYOND);
        }
        return sheets[s].lay(bits, n);
    }

    public long write(int s, int i, long v) {
        if (!isSheet(s)) {
            return tell(BEYOND);
        }
        Sheet to = sheets[s];
        if (to.bits == 0) {
            return tell(MISSING);
        }
        if (!within(i, 0, to.size - 1)) {
            return tell(BEYOND);
        }
        long before = to.numbers[i];
        to.numbers[i] = to.lowestBits(v);
        return before;
    }

    public int copy(int s, int from, int t, int to, int n) {
        if (!isSheet(s) || !isSheet(t)) {
            return tell(BEYOND);
        }
        Sheet source = sheets[s];
        Sheet target = sheets[t];
        if (source.bits == 0 || target.bits == 0) {
            return tell(MISSING);
        }
        if (source.bits != target.bits) {
            return tell(KIND);
        }
        if (!source.holds(from, n) || !target.holds(to, n)) {
            return tell(BEYOND);
        }
        System.arraycopy(source.numbers, from, target.numbers, to, n);
        return n;
    }

    public int weeks(int s) {
        if (!isSheet(s)) {
            return tell(BEYOND);
        }
        Sheet draws = sheets[s];
        if (draws.bits == 0) {
            return tell(MISSING);
        }
        int before = state.weekCount;
        for (int i = 0; i < draws.size && !state.isBookFull(); i++) {
            if (isRow(draws.numbers[i])) {
                holdWeek((int) draws.numbers[i]);
            }
        }
        return state.weekCount - before;
    }

    public int read(int s) {
        if (!isSheet(s)) {
            return tell(BEYOND);
        }
        Sheet guesses = sheets[s];
        if (guesses.bits == 0) {
            return tell(MISSING);
        }
        for (int i = 0; i < guesses.size; i++) {
            if (i >= state.weekCount || guesses.numbers[i] != state.bookCell(i, 3)) {
                return 1 + i;
            }
        }
        return 0;
    }

    // ---- images

    public int image() {
        kept.becomes(state);
        keeps = true;
        return 1;
    }

    public int undo() {
        if (!keeps) {
            return tell(NONE);
        }
        state.becomes(kept);
        crowd.stir();
        return state.weekCount;
    }

    public int tear() {
        int had = keeps ? 1 : 0;
        keeps = false;
        return had;
    }

    public int count(int what) {
        switch (what) {
            case 0:
                return state.groups;
            case 1:
                return state.weekCount;
            case 2:
                crowd.settle();
                return crowd.total;
            case 3:
                return state.boughtRows;
            case 4:
                return state.hasLiking() ? 1 : 0;
            case 5:
                return tapeSize;
            case 6:
                return state.z;
            case 7:
                return state.rule[POT];
            default:
                return tell(BEYOND);
        }
    }

    public int status(int which) {
        if (!within(which, -1, FINDING_KINDS - 1)) {
            return tell(BEYOND);
        }
        if (which >= 0) {
            return findings[which];
        }
        int all = 0;
        for (int i = 0; i < FINDING_KINDS; i++) {
            all += findings[i];
        }
        return all;
    }

    // Counted here and not by the look of an answer: z and sheets may hold numbers that look like findings.
    private int tell(int finding) {
        if (within(finding, 0, FINDING_KINDS - 1)) {
            findings[finding]++;
        }
        return FIRST_FINDING - finding;
    }

    private static boolean within(int v, int least, int most) {
        return v >= least && v <= most;
    }

    // A long, as a sheet's numbers may have 64 bits of which the lowest alone would look like a row.
    private static boolean isRow(long row) {
        return row >= 0 && row <= ALL_NUMBERS && Integer.bitCount((int) row) == IN_A_ROW;
    }

    private static boolean isPlace(int place) {
        return within(place, 0, ROWS - 1);
    }

    private static boolean isNumber(int number) {
        return within(number, 0, NUMBERS - 1);
    }

    private static boolean isSheet(int s) {
        return within(s, 0, SHEETS - 1);
    }

    private boolean isPeople(int people) {
        return within(people, 0, state.groups - 1);
    }

    private static boolean isUnder(int kind, int above) {
        int at = kind;
        for (int step = 0; step < KINDS && within(at, 0, KINDS - 1); step++) {
            if (at == above) {
                return true;
            }
            at = KIND_ABOVE[at];
        }
        return false;
    }

    private int drawByLots() {
        int draw = 0;
        for (int lot = 0; lot < LOTS_BOUND && Integer.bitCount(draw) < IN_A_ROW; lot++) {
            state.z = state.z * 1103515245 + 12345;
            draw |= 1 << (state.z >>> 16) % NUMBERS;
        }
        return draw;
    }

    private void holdWeek(int draw) {
        crowd.settle();
        state.enterWeek(draw, crowd);
        crowd.stir();
    }

    /** All that an image keeps: people, what was bought, the liking, the rule, z and the book. */
    private static final class State {
        final int[] kinds = new int[PEOPLE_LIMIT];
        final int[] manys = new int[PEOPLE_LIMIT];
        final int[] boughtPlaces = new int[BOUGHT_ROWS];
        final int[] boughtTimes = new int[BOUGHT_ROWS];
        final int[] code = new int[TAPE_LIMIT];
        final int[] rule = new int[RULE_PARTS];
        private final int[] cells = new int[BOOK_LIMIT * BOOK_CELLS];
        int groups;
        int boughtRows;
        int codeSize;
        int weekCount;
        int z = 1;

        State() {
            System.arraycopy(RULE_FIRST, 0, rule, 0, RULE_PARTS);
        }

        void becomes(State other) {
            System.arraycopy(other.kinds, 0, kinds, 0, PEOPLE_LIMIT);
            System.arraycopy(other.manys, 0, manys, 0, PEOPLE_LIMIT);
            System.arraycopy(other.boughtPlaces, 0, boughtPlaces, 0, BOUGHT_ROWS);
            System.arraycopy(other.boughtTimes, 0, boughtTimes, 0, BOUGHT_ROWS);
            System.arraycopy(other.code, 0, code, 0, TAPE_LIMIT);
            System.arraycopy(other.rule, 0, rule, 0, RULE_PARTS);
            System.arraycopy(other.cells, 0, cells, 0, BOOK_LIMIT * BOOK_CELLS);
            groups = other.groups;
            boughtRows = other.boughtRows;
            codeSize = other.codeSize;
            weekCount = other.weekCount;
            z = other.z;
        }

        // A text has at least one factor, so that no code is no liking.
        boolean hasLiking() {
            return codeSize > 0;
        }

        /** Where a row stands among those bought; a new one would stand behind them all. */
        int boughtAt(int place) {
            for (int i = 0; i < boughtRows && i < BOUGHT_ROWS; i++) {
                if (boughtPlaces[i] == place) {
                    return i;
                }
            }
            return boughtRows;
        }

        boolean isBookFull() {
            return weekCount >= BOOK_LIMIT;
        }

        int bookCell(int ofWeek, int what) {
            if (!within(ofWeek, 0, BOOK_LIMIT - 1) || !within(what, 0, BOOK_CELLS - 1)) {
                return 0;
            }
            return cells[ofWeek * BOOK_CELLS + what];
        }

        // 0 without a week: it has no number in common with any row.
        int latestDraw() {
            return bookCell(weekCount - 1, 0);
        }

        boolean cameIn(int ofWeek, int number) {
            return (bookCell(ofWeek, 0) >> number & 1) == 1;
        }

        int timesOf(int number) {
            int times = 0;
            for (int i = 0; i < weekCount; i++) {
                times += cameIn(i, number) ? 1 : 0;
            }
            return times;
        }

        int rankTwoWinners(int number, boolean ofThoseWithIt) {
            int all = 0;
            for (int i = 0; i < weekCount; i++) {
                if (cameIn(i, number) == ofThoseWithIt) {
                    all += bookCell(i, 3);
                }
            }
            return all;
        }

        // Not held at the pot's limit: that comes last, behind what the winners get.
        long potWithIn(long pot, long allCrosses) {
            return pot + allCrosses * rule[PRICE] * rule[PART] / 100;
        }

        long rankPart(int rank, long pot) {
            return within(rank, LEAST_RANK, IN_A_ROW) ? pot * rule[6 - rank] / 100 : 0;
        }

        long lessTax(long gets) {
            long above = gets - rule[FREE];
            return above > 0 ? gets - above * rule[TAX] / 100 : gets;
        }

        void enterWeek(int draw, Crowd crowd) {
            if (isBookFull()) {
                return;
            }
            int at = weekCount * BOOK_CELLS;
            long pot = potWithIn(rule[POT], crowd.total);
            long left = pot;
            crowd.tellWinners(draw);
            for (int rank = IN_A_ROW; rank >= LEAST_RANK; rank--) {
                int winners = crowd.byRank[rank];
                long each = winners > 0 ? rankPart(rank, pot) / winners : 0;
                left -= each * winners;
                cells[at + 5 - rank] = winners;
                cells[at + 8 - rank] = (int) each;
            }
            rule[POT] = (int) Math.min(Math.max(left, 0), POT_LIMIT);
            cells[at] = draw;
            cells[at + 7] = rule[POT];
            weekCount++;
        }
    }

    /** The rows in the order of their places, as bits and as their four numbers, four bits each, the least lowest. */
    private static final class Slip {
        final int[] bits = new int[ROWS];
        final int[] packed = new int[ROWS];

        Slip() {
            int at = 0;
            for (int d = 3; d < NUMBERS; d++) {
                for (int c = 2; c < d; c++) {
                    for (int b = 1; b < c; b++) {
                        for (int a = 0; a < b && at < ROWS; a++) {
                            bits[at] = 1 << a | 1 << b | 1 << c | 1 << d;
                            packed[at] = a | b << 4 | c << 8 | d << 12;
                            at++;
                        }
                    }
                }
            }
        }

        // Below a row stand, for each of its numbers, the sets of as many numbers that are all below that one.
        static int placeOf(int row) {
            int below = 0;
            int size = 0;
            for (int number = 0; number < NUMBERS; number++) {
                if ((row >> number & 1) == 1) {
                    size++;
                    below += choose(number, size);
                }
            }
            return below;
        }

        private static int choose(int from, int size) {
            int ways = 1;
            for (int i = 0; i < size; i++) {
                ways = ways * (from - i) / (i + 1);
            }
            return ways;
        }

        static boolean inOneLine(int row) {
            return (row & 0x00f) == row || (row & 0x0f0) == row || (row & 0xf00) == row;
        }

        // A column has three numbers only, so that three in one are all of it.
        static boolean hasColumn(int row) {
            for (int column = 0; column < 4; column++) {
                int all = 0x111 << column;
                if ((row & all) == all) {
                    return true;
                }
            }
            return false;
        }
    }

    /** Reads the tape as a liking into code in which each act stands behind what it acts on. */
    private static final class LikingReader {
        static final int PLUS = -1;
        static final int MINUS = -2;
        static final int TIMES = -3;
        static final int CHOOSE = -4;
        static final int FIRST_NAME = -10;
        static final String NAMES = "slgecdw";
        private static final int OPEN_LIMIT = 4;
        private static final int DIGITS = 3;

        private final byte[] text = new byte[TAPE_LIMIT];
        private final int[] code = new int[TAPE_LIMIT];
        private int size;
        private int codeSize;
        private int at;
        private int fault;

        /** The fault of a text, or -1. */
        int faultOf(byte[] bytes, int many) {
            size = Math.max(0, Math.min(many, Math.min(bytes.length, TAPE_LIMIT)));
            System.arraycopy(bytes, 0, text, 0, size);
            codeSize = 0;
            at = 0;
            fault = -1;
            readSum(0);
            if (fault < 0 && at < size) {
                fault = at;
            }
            return fault;
        }

        int putCodeInto(int[] target) {
            int many = Math.min(codeSize, target.length);
            System.arraycopy(code, 0, target, 0, many);
            return many;
        }

        private void readSum(int open) {
            readProduct(open);
            for (int n = 0; n < TAPE_LIMIT && fault < 0 && (sees('+') || sees('-')); n++) {
                int act = sees('+') ? PLUS : MINUS;
                at++;
                readProduct(open);
                put(act);
            }
        }

        private void readProduct(int open) {
            readFactor(open);
            for (int n = 0; n < TAPE_LIMIT && fault < 0 && sees('*'); n++) {
                at++;
                readFactor(open);
                put(TIMES);
            }
        }

        private void readFactor(int open) {
            if (fault >= 0) {
                return;
            }
            if (digit() >= 0) {
                readNumber();
            } else if (nameHere() >= 0) {
                put(FIRST_NAME - nameHere());
                at++;
            } else if (sees('(') && open < OPEN_LIMIT) {
                at++;
                readBracket(open + 1);
            } else {
                fault = at;
            }
        }

        private void readBracket(int open) {
            readSum(open);
            if (fault < 0 && sees('?')) {
                at++;
                readSum(open);
                pass(':');
                if (fault < 0) {
                    readSum(open);
                }
                put(CHOOSE);
            }
            pass(')');
        }

        // A fourth digit is left where it is: nothing takes it, so that the fault is its place.
        private void readNumber() {
            int value = 0;
            for (int n = 0; n < DIGITS && digit() >= 0; n++) {
                value = value * 10 + digit();
                at++;
            }
            put(value);
        }

        private void pass(char sign) {
            if (fault >= 0) {
                return;
            }
            if (sees(sign)) {
                at++;
            } else {
                fault = at;
            }
        }

        private boolean sees(char sign) {
            return at < size && text[at] == sign;
        }

        private int digit() {
            return at < size && text[at] >= '0' && text[at] <= '9' ? text[at] - '0' : -1;
        }

        private int nameHere() {
            return at < size ? NAMES.indexOf((char) (text[at] & 255)) : -1;
        }

        private void put(int cell) {
            if (codeSize < TAPE_LIMIT) {
                code[codeSize] = cell;
                codeSize++;
            }
        }
    }

    /** What the liking says of rows. */
    private static final class LikingVoice {
        private static final int MOST = 99;
        private static final int EVEN_NUMBERS = 0x555;

        private final State state;
        private final int[] stack = new int[TAPE_LIMIT];

        LikingVoice(State state) {
            this.state = state;
        }

        int say(int row, int packed, int latest) {
            if (!state.hasLiking()) {
                return 1;
            }
            int top = 0;
            for (int i = 0; i < state.codeSize && i < TAPE_LIMIT; i++) {
                int cell = state.code[i];
                if (cell >= 0 || cell <= LikingReader.FIRST_NAME) {
                    if (top < TAPE_LIMIT) {
                        stack[top] = cell >= 0 ? cell : named(LikingReader.FIRST_NAME - cell, row, packed, latest);
                        top++;
                    }
                } else {
                    top = act(cell, top);
                }
            }
            return Math.max(0, Math.min(top > 0 ? stack[0] : 0, MOST));
        }

        /** Does an act on what stands highest: how many stand then. */
        private int act(int cell, int top) {
            int takes = cell == LikingReader.CHOOSE ? 3 : 2;
            int at = top - takes;
            if (at < 0 || top > TAPE_LIMIT) {
                return top;
            }
            switch (cell) {
                case LikingReader.PLUS:
                    stack[at] += stack[at + 1];
                    break;
                case LikingReader.MINUS:
                    stack[at] -= stack[at + 1];
                    break;
                case LikingReader.TIMES:
                    stack[at] *= stack[at + 1];
                    break;
                default:
                    stack[at] = stack[at] > 0 ? stack[at + 1] : stack[top - 1];
                    break;
            }
            return at + 1;
        }

        private int named(int name, int row, int packed, int latest) {
            switch (name) {
                case 0:
                    return (packed & 15) + (packed >> 4 & 15) + (packed >> 8 & 15) + (packed >> 12 & 15);
                case 1:
                    return packed & 15;
                case 2:
                    return packed >> 12 & 15;
                case 3:
                    return Integer.bitCount(row & EVEN_NUMBERS);
                case 4:
                    return longestChain(row);
                case 5:
                    return Integer.bitCount(row & latest);
                default:
                    return state.weekCount;
            }
        }

        private static int longestChain(int row) {
            int longest = 0;
            int chain = 0;
            for (int number = 0; number < NUMBERS; number++) {
                chain = (row >> number & 1) == 1 ? chain + 1 : 0;
                longest = Math.max(longest, chain);
            }
            return longest;
        }
    }

    /**
     * What all people like and cross. It is worked out when it is first asked for behind a
     * change (stir), as most questions come in runs between two changes.
     */
    private static final class Crowd {
        private static final int BELOW_SIX = 0x03f;
        private static final int SEVEN = 0x080;
        private static final int FROM_EIGHT = 0xf00;

        private final State state;
        private final Slip slip;
        private final LikingVoice voice;
        private final Overlaps overlaps;
        private final int[] said = new int[ROWS];
        private final int[] liked = new int[ROWS];
        private final int[] threes = new int[ROWS];
        private final int[] twos = new int[ROWS];
        final int[] crosses = new int[ROWS];
        final int[] byRank = new int[IN_A_ROW + 1];
        int total;
        private int latest;
        private boolean settled;
        private boolean winnersSettled;

        Crowd(State state, Slip slip, Overlaps overlaps) {
            this.state = state;
            this.slip = slip;
            this.overlaps = overlaps;
            voice = new LikingVoice(state);
        }

        void stir() {
            settled = false;
            winnersSettled = false;
        }

        void settle() {
            if (settled) {
                return;
            }
            latest = state.latestDraw();
            for (int p = 0; p < ROWS; p++) {
                said[p] = voice.say(slip.bits[p], slip.packed[p], latest);
            }
            Arrays.fill(crosses, 0);
            for (int g = 0; g < state.groups && g < PEOPLE_LIMIT; g++) {
                int all = likeAll(state.kinds[g], state.manys[g]);
                addCrosses(state.manys[g], all);
            }
            for (int i = 0; i < state.boughtRows && i < BOUGHT_ROWS; i++) {
                if (isPlace(state.boughtPlaces[i])) {
                    crosses[state.boughtPlaces[i]] += state.boughtTimes[i];
                }
            }
            total = 0;
            for (int p = 0; p < ROWS; p++) {
                total += crosses[p];
            }
            settled = true;
        }

        /** Works out the winners of all draws, which one week alone does not need. */
        void settleWinners() {
            settle();
            if (winnersSettled) {
                return;
            }
            for (int p = 0; p < ROWS; p++) {
                overlaps.values[p] = crosses[p];
            }
            overlaps.gather();
            for (int p = 0; p < ROWS; p++) {
                threes[p] = (int) overlaps.ofRank(3, p);
                twos[p] = (int) overlaps.ofRank(2, p);
            }
            winnersSettled = true;
        }

        /** Winners of a rank by the draw that has a place; settleWinners goes ahead. */
        int winnersAt(int rank, int drawPlace) {
            if (drawPlace < 0 || drawPlace >= ROWS) {
                return 0;
            }
            return rank == 4 ? crosses[drawPlace] : rank == 3 ? threes[drawPlace] : twos[drawPlace];
        }

        /** Puts the winners by one draw into byRank; settle goes ahead. */
        void tellWinners(int draw) {
            Arrays.fill(byRank, 0);
            for (int p = 0; p < ROWS; p++) {
                int rank = Integer.bitCount(slip.bits[p] & draw);
                if (rank <= IN_A_ROW) {
                    byRank[rank] += crosses[p];
                }
            }
        }

        int likingOf(int kind, int many, int place) {
            if (place < 0 || place >= ROWS) {
                return 0;
            }
            int row = slip.bits[place];
            switch (kind) {
                case 0:
                    return said[place];
                case 1:
                    return said[place] + born(row);
                case 2:
                    return said[place] + (Slip.inOneLine(row) ? 20 : 0) + (Slip.hasColumn(row) ? 10 : 0);
                case 3:
                    return 1;
                case 4:
                    return said[place] + 3 * Integer.bitCount(row & latest);
                case 5:
                    return (said[place] + born(row)) * ((row & SEVEN) != 0 ? 2 : 1);
                case 6:
                    return 1 + Integer.bitCount(row & FROM_EIGHT);
                default:
                    return place < many ? 1 + Integer.bitCount(row & FROM_EIGHT) : 0;
            }
        }

        private static int born(int row) {
            return 2 * Integer.bitCount(row & BELOW_SIX);
        }

        int crossesBy(int kind, int many, int place) {
            int all = likeAll(kind, many);
            if (all <= 0 || place < 0 || place >= ROWS) {
                return 0;
            }
            return many * liked[place] / all;
        }

        private void addCrosses(int many, int all) {
            if (all <= 0) {
                return;
            }
            for (int p = 0; p < ROWS; p++) {
                crosses[p] += many * liked[p] / all;
            }
        }

        /** Puts what people like each row into liked: all together. */
        private int likeAll(int kind, int many) {
            int all = 0;
            for (int p = 0; p < ROWS; p++) {
                liked[p] = likingOf(kind, many, p);
                all += liked[p];
            }
            return all;
        }
    }

    /**
     * Sums a value of each row over the rows that have just so many numbers in common with one.
     * To ask every row about every other takes 245025 looks; by the sums over the rows that hold
     * a triple or a pair it takes ten a row.
     */
    private static final class Overlaps {
        final long[] values = new long[ROWS];
        private final long[] sums = new long[TRIPLES + PAIRS];
        private final int[] marks = new int[10];
        private final Slip slip;

        Overlaps(Slip slip) {
            this.slip = slip;
        }

        /** Takes in the values, once they all stand. */
        void gather() {
            Arrays.fill(sums, 0);
            for (int p = 0; p < ROWS; p++) {
                mark(slip.packed[p]);
                for (int i = 0; i < 10; i++) {
                    sums[marks[i]] += values[p];
                }
            }
        }

        /** The sum over the rows that have rank (2 to 4) numbers in common with the one at a place. */
        long ofRank(int rank, int place) {
            if (place < 0 || place >= ROWS) {
                return 0;
            }
            long four = values[place];
            if (rank == 4) {
                return four;
            }
            mark(slip.packed[place]);
            // The row itself holds all four of its triples and six pairs; a row with three in common, three of the pairs.
            long three = sums[marks[0]] + sums[marks[1]] + sums[marks[2]] + sums[marks[3]] - 4 * four;
            if (rank == 3) {
                return three;
            }
            long byPairs = 0;
            for (int i = 4; i < 10; i++) {
                byPairs += sums[marks[i]];
            }
            return byPairs - 3 * three - 6 * four;
        }

        /** Puts into marks where the sums of a row's four triples and six pairs stand. */
        private void mark(int packed) {
            int a = packed & 15;
            int b = packed >> 4 & 15;
            int c = packed >> 8 & 15;
            int d = packed >> 12 & 15;
            if (a >= b || b >= c || c >= d || d >= NUMBERS) {
                return;
            }
            int pairsC = PAIRS_BELOW[c];
            int pairsD = PAIRS_BELOW[d];
            int ab = PAIRS_BELOW[b] + a;
            marks[0] = TRIPLES_BELOW[c] + ab;
            marks[1] = TRIPLES_BELOW[d] + ab;
            marks[2] = TRIPLES_BELOW[d] + pairsC + a;
            marks[3] = TRIPLES_BELOW[d] + pairsC + b;
            marks[4] = TRIPLES + ab;
            marks[5] = TRIPLES + pairsC + a;
            marks[6] = TRIPLES + pairsC + b;
            marks[7] = TRIPLES + pairsD + a;
            marks[8] = TRIPLES + pairsD + b;
            marks[9] = TRIPLES + pairsD + c;
        }
    }

    /** What crosses are worth over all draws; Crowd.settleWinners goes ahead of each question. */
    private static final class Worths {
        private static final int HALVINGS = 32;

        private final State state;
        private final Slip slip;
        private final Crowd crowd;
        private final Overlaps overlaps;
        private final long[] sums = new long[ROWS];
        private final int[] taken = new int[ROWS];

        Worths(State state, Slip slip, Crowd crowd, Overlaps overlaps) {
            this.state = state;
            this.slip = slip;
            this.crowd = crowd;
            this.overlaps = overlaps;
        }

        /** Worth of a row with a pot to which this week's IN is yet to come. */
        long worthOf(int place, int pot) {
            if (place < 0 || place >= ROWS) {
                return 0;
            }
            int row = slip.bits[place];
            long full = state.potWithIn(pot, crowd.total);
            long part4 = state.rankPart(4, full);
            long part3 = state.rankPart(3, full);
            long part2 = state.rankPart(2, full);
            long all = 0;
            for (int d = 0; d < ROWS; d++) {
                int rank = Integer.bitCount(row & slip.bits[d]);
                if (rank >= LEAST_RANK) {
                    long part = rank == 4 ? part4 : rank == 3 ? part3 : part2;
                    all += oneGets(part, crowd.winnersAt(rank, d), 1);
                }
            }
            return all / ROWS;
        }

        /** What one cross gets less tax, when so many are new beside those that were crossed. */
        private long oneGets(long part, int winners, long more) {
            long by = winners + more;
            return by > 0 ? state.lessTax(part / by) : 0;
        }

        int bestPlace() {
            Arrays.fill(sums, 0);
            long full = state.potWithIn(state.rule[POT], crowd.total);
            for (int rank = IN_A_ROW; rank >= LEAST_RANK; rank--) {
                long part = state.rankPart(rank, full);
                for (int d = 0; d < ROWS; d++) {
                    overlaps.values[d] = oneGets(part, crowd.winnersAt(rank, d), 1);
                }
                if (rank < IN_A_ROW) {
                    overlaps.gather();
                }
                for (int p = 0; p < ROWS; p++) {
                    sums[p] += overlaps.ofRank(rank, p);
                }
            }
            int first = 0;
            for (int p = 1; p < ROWS; p++) {
                // By the cut worth, as like worths go by place.
                if (sums[p] / ROWS > sums[first] / ROWS) {
                    first = p;
                }
            }
            return first;
        }

        /** The least pot with which a row is worth the price, or -1. A greater pot never makes it worth less. */
        int leastPot(int place) {
            int price = state.rule[PRICE];
            if (worthOf(place, POT_LIMIT) < price) {
                return -1;
            }
            int low = 0;
            int high = POT_LIMIT;
            for (int step = 0; step < HALVINGS && low < high; step++) {
                int middle = (low + high) / 2;
                if (worthOf(place, middle) >= price) {
                    high = middle;
                } else {
                    low = middle + 1;
                }
            }
            return high;
        }

        long houseOf(int n) {
            takeLeastCrossed(n);
            for (int p = 0; p < ROWS; p++) {
                overlaps.values[p] = taken[p];
            }
            overlaps.gather();
            long full = state.potWithIn(state.rule[POT], crowd.total);
            long all = 0;
            for (int rank = IN_A_ROW; rank >= LEAST_RANK; rank--) {
                long part = state.rankPart(rank, full);
                for (int d = 0; d < ROWS; d++) {
                    long own = overlaps.ofRank(rank, d);
                    all += own * oneGets(part, crowd.winnersAt(rank, d), own);
                }
            }
            return all / ROWS - (long) n * state.rule[PRICE];
        }

        /** Marks the n rows of the least crosses, of like ones those of the least places. */
        private void takeLeastCrossed(int n) {
            int bound = leastBound(n);
            int below = countUpTo(bound - 1);
            int left = n - below;
            for (int p = 0; p < ROWS; p++) {
                boolean takes = crowd.crosses[p] < bound || crowd.crosses[p] == bound && left > 0;
                if (crowd.crosses[p] == bound) {
                    left--;
                }
                taken[p] = takes ? 1 : 0;
            }
        }

        /** The least number of crosses that at least n rows do not pass. */
        private int leastBound(int n) {
            int low = 0;
            int high = crowd.total;
            for (int step = 0; step < HALVINGS && low < high; step++) {
                int middle = (low + high) / 2;
                if (countUpTo(middle) >= n) {
                    high = middle;
                } else {
                    low = middle + 1;
                }
            }
            return high;
        }

        private int countUpTo(int most) {
            int rows = 0;
            for (int p = 0; p < ROWS; p++) {
                rows += crowd.crosses[p] <= most ? 1 : 0;
            }
            return rows;
        }

        /** Behind m seekers: how many rows they took, or the crosses of the row that has the fewest. */
        int afterSeekers(int m, boolean rowsTaken) {
            System.arraycopy(crowd.crosses, 0, taken, 0, ROWS);
            int different = 0;
            for (int i = 0; i < m && i < SEEKERS_LIMIT; i++) {
                int p = leastTaken();
                different += taken[p] == crowd.crosses[p] ? 1 : 0;
                taken[p]++;
            }
            return rowsTaken ? different : taken[leastTaken()];
        }

        private int leastTaken() {
            int least = 0;
            for (int p = 1; p < ROWS; p++) {
                if (taken[p] < taken[least]) {
                    least = p;
                }
            }
            return least;
        }
    }

    /** A row of numbers of 8, 16 or 64 bits; of 0 bits while it is missing. */
    private static final class Sheet {
        final long[] numbers = new long[SHEET_LIMIT];
        int bits;
        int size;

        static boolean isWidth(int width) {
            return width == 8 || width == 16 || width == 64;
        }

        int lay(int width, int n) {
            Arrays.fill(numbers, 0);
            bits = width;
            size = width == 0 ? 0 : Math.max(0, Math.min(n, SHEET_LIMIT));
            return size;
        }

        // By what is left behind the first, as from and n together may go round.
        boolean holds(int first, int n) {
            return first >= 0 && n >= 0 && first <= size && n <= size - first;
        }

        long lowestBits(long v) {
            switch (bits) {
                case 8:
                    return (byte) v;
                case 16:
                    return (short) v;
                default:
                    return v;
            }
        }
    }
}
