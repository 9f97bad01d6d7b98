import java.util.function.Supplier;

/** Sentences of section 5 and of promises 33 to 37: sheets. */
final class SheetSentences {
    private static final int MIN = Integer.MIN_VALUE;
    private static final int MAX = Integer.MAX_VALUE;
    private final Sentences s;

    SheetSentences(Sentences s) {
        this.s = s;
    }

    void run() {
        section();
        sheet();
        sheetRefused();
        write();
        writeRefused();
        copy();
        copyRefused();
        weeks();
        weeksTillFull();
        read();
    }

    /** Numbers of a sheet, each put back. */
    private void holds(SlipWeeks x, int sheet, long... want) {
        for (int i = 0; i < want.length; i++) {
            s.is("number " + i + " of sheet " + sheet, x.write(sheet, i, want[i]), want[i]);
        }
        if (want.length < 40) {
            s.is("number " + want.length + " of sheet " + sheet, x.write(sheet, want.length, 0), Due.BEYOND);
        }
    }

    private static SlipWeeks with(int sheet, int bits, long... numbers) {
        SlipWeeks x = new SlipWeeks();
        x.sheet(sheet, bits, numbers.length);
        for (int i = 0; i < numbers.length; i++) {
            x.write(sheet, i, numbers[i]);
        }
        return x;
    }

    private void section() {
        s.of("Terms 5", "SHEETS 0 to 3 are rows of at most 40 numbers of 8, 16 or 64 bits (with a sign), or MISSING (at first).");
        SlipWeeks x = new SlipWeeks();
        for (int sheet = 0; sheet < 4; sheet++) {
            s.is("weeks(" + sheet + ")", x.weeks(sheet), Due.MISSING);
            s.is("read(" + sheet + ")", x.read(sheet), Due.MISSING);
            s.is("write(" + sheet + ", 0, 0)", x.write(sheet, 0, 0), Due.MISSING);
            s.is("copy(" + sheet + ", 0, 0, 0, 0)", x.copy(sheet, 0, 0, 0, 0), Due.MISSING);
        }
        s.is("weeks(-1)", x.weeks(-1), Due.BEYOND);
        s.is("weeks(4)", x.weeks(4), Due.BEYOND);
        for (int sheet = 0; sheet < 4; sheet++) {
            s.is("sheet(" + sheet + ", 64, 40)", x.sheet(sheet, 64, 40), 40);
            for (int i = 0; i < 40; i++) {
                x.write(sheet, i, 100 * sheet + i);
            }
        }
        for (int sheet = 0; sheet < 4; sheet++) {
            for (int i = 0; i < 40; i += 13) {
                s.is("number " + i + " of sheet " + sheet, x.write(sheet, i, 0), 100 * sheet + i);
            }
        }
    }

    private void sheet() {
        s.of("Promise 33", "A sheet has n numbers, all 0, of 8, 16 or 64 bits; bits 0: it is MISSING: n (0 if it is MISSING).");
        for (int bits : new int[] {8, 16, 64}) {
            SlipWeeks x = new SlipWeeks();
            s.is("sheet(0, " + bits + ", 0)", x.sheet(0, bits, 0), 0);
            holds(x, 0);
            s.is("sheet(0, " + bits + ", 1)", x.sheet(0, bits, 1), 1);
            holds(x, 0, 0);
            s.is("sheet(0, " + bits + ", 40)", x.sheet(0, bits, 40), 40);
            holds(x, 0, new long[40]);
            for (int i = 0; i < 40; i++) {
                x.write(0, i, -1);
            }
            s.is("sheet(0, " + bits + ", 5), anew", x.sheet(0, bits, 5), 5);
            holds(x, 0, 0, 0, 0, 0, 0);
            s.is("sheet(0, " + bits + ", 40), anew", x.sheet(0, bits, 40), 40);
            holds(x, 0, new long[40]);
            s.is("sheet(0, 0, 40)", x.sheet(0, 0, 40), 0);
            s.is("read(0)", x.read(0), Due.MISSING);
            s.is("sheet(0, 0, 0), once more", x.sheet(0, 0, 0), 0);
            s.is("sheet(0, 0, 7), once more", x.sheet(0, 0, 7), 0);
            s.is("sheet(0, " + bits + ", 2) when it was missing", x.sheet(0, bits, 2), 2);
            holds(x, 0, 0, 0);
        }
        s.is("sheet(0, 8, 3) with some", Looks.settled().sheet(3, 0, 3), 0);
    }

    private void sheetRefused() {
        s.of("Promise 33", "BEYOND: no such sheet, other bits.");
        for (int sheet : new int[] {-1, 4, MIN, MAX}) {
            s.refused(Looks::settled, Due.BEYOND, "sheet", sheet, 8, 1);
            s.refused(Looks::settled, Due.BEYOND, "sheet", sheet, 0, -1);
        }
        for (int bits : new int[] {-1, 1, 4, 7, 9, 15, 17, 24, 32, 63, 65, 128, -8, -64, 256 + 8, MIN, MAX}) {
            s.refused(Looks::settled, Due.BEYOND, "sheet", 0, bits, 1);
        }
        s.refused(Looks::settled, Due.BEYOND, "sheet", 0, 32, -1);
        s.of("Promise 33", "SIZE: n is below 0 (also with bits 0).");
        for (int bits : new int[] {0, 8, 16, 64}) {
            s.refused(Looks::settled, Due.SIZE, "sheet", 0, bits, -1);
            s.refused(Looks::settled, Due.SIZE, "sheet", 0, bits, MIN);
        }
        s.of("Promise 33", "BEYOND: n is above 40 (also with bits 0).");
        for (int bits : new int[] {0, 8, 16, 64}) {
            s.refused(Looks::settled, Due.BEYOND, "sheet", 0, bits, 41);
            s.refused(Looks::settled, Due.BEYOND, "sheet", 0, bits, MAX);
        }
    }

    private void write() {
        s.of("Promise 34", "Number i of a sheet becomes v (its lowest bits): what it was.");
        writes(8, new long[] {0x7f, 0x80, 0xff, 0x100, 0x17f, -0x81}, new long[] {127, -128, -1, 0, 127, 127});
        writes(16, new long[] {0x7fff, 0x8000, 0xffff, 0x10000, 0x1ffff, -0x8001}, new long[] {32767, -32768, -1, 0, -1, 32767});
        long[] any = {Long.MAX_VALUE, Long.MIN_VALUE, -1, 1L << 32, 0x80000000L, Due.BEYOND};
        writes(64, any, any);
        SlipWeeks x = with(2, 64, Due.BEYOND, Due.SIZE);
        s.is("write of what looks like a finding", x.write(2, 0, 1), Due.BEYOND);
        s.is("write of what looks like a finding", x.write(2, 1, 1), Due.SIZE);
        s.is("status(-1), none of them is one", x.status(-1), 0);
    }

    /** Writes such numbers into the last place of a sheet, one behind the other: what stands there then. */
    private void writes(int bits, long[] numbers, long[] want) {
        SlipWeeks x = new SlipWeeks();
        x.sheet(1, bits, 40);
        long stands = 0;
        for (int i = 0; i < numbers.length; i++) {
            s.is("write(1, 39, " + numbers[i] + ") of " + bits + " bits", x.write(1, 39, numbers[i]), stands);
            stands = want[i];
        }
        s.is("write(1, 39, 0) of " + bits + " bits", x.write(1, 39, 0), stands);
        s.is("write(1, 38, 0), the others stay", x.write(1, 38, 0), 0);
    }

    private void writeRefused() {
        s.of("Promise 34", "BEYOND: no such sheet.");
        for (int sheet : new int[] {-1, 4, MIN, MAX}) {
            s.refused(Looks::settled, Due.BEYOND, "write", sheet, 0, 1);
        }
        s.of("Promise 34", "MISSING.");
        for (int i : new int[] {0, -1, 40}) {
            s.refused(Looks::settled, Due.MISSING, "write", 3, i, 1);
        }
        s.of("Promise 34", "BEYOND: no such number.");
        for (int i : new int[] {-1, 3, 39, 40, MIN, MAX}) {
            s.refused(Looks::settled, Due.BEYOND, "write", 0, i, 1);
        }
        s.refused(() -> with(0, 8), Due.BEYOND, "write", 0, 0, 1);
        s.refused(() -> with(0, 64, new long[40]), Due.BEYOND, "write", 0, 40, 1);
    }

    private static SlipWeeks two() {
        SlipWeeks x = with(0, 16, 1, 2, 3, 4, 5, 6);
        x.sheet(1, 16, 4);
        for (int i = 0; i < 4; i++) {
            x.write(1, i, 11 + i);
        }
        x.sheet(2, 8, 6);
        return x;
    }

    private void copy() {
        s.of("Promise 35", "n numbers of a sheet from one on come to another one from one on (as they all were): n.");
        SlipWeeks x = two();
        s.is("copy(0, 0, 1, 0, 4), all of it", x.copy(0, 0, 1, 0, 4), 4);
        holds(x, 1, 1, 2, 3, 4);
        holds(x, 0, 1, 2, 3, 4, 5, 6);
        x = two();
        s.is("copy(0, 5, 1, 3, 1), the last to the last", x.copy(0, 5, 1, 3, 1), 1);
        holds(x, 1, 11, 12, 13, 6);
        s.is("copy(1, 0, 0, 2, 4), to the end", x.copy(1, 0, 0, 2, 4), 4);
        holds(x, 0, 1, 2, 11, 12, 13, 6);
        x = two();
        s.is("copy(0, 0, 0, 1, 5), upwards in one", x.copy(0, 0, 0, 1, 5), 5);
        holds(x, 0, 1, 1, 2, 3, 4, 5);
        x = two();
        s.is("copy(0, 1, 0, 0, 5), downwards in one", x.copy(0, 1, 0, 0, 5), 5);
        holds(x, 0, 2, 3, 4, 5, 6, 6);
        s.is("copy(0, 0, 0, 0, 6), on itself", x.copy(0, 0, 0, 0, 6), 6);
        holds(x, 0, 2, 3, 4, 5, 6, 6);
        s.is("copy(0, 6, 1, 4, 0), none behind the last", x.copy(0, 6, 1, 4, 0), 0);
        s.is("copy(0, 0, 1, 0, 0), none", x.copy(0, 0, 1, 0, 0), 0);
        holds(x, 1, 11, 12, 13, 14);
        x.sheet(2, 16, 0);
        x.sheet(3, 16, 0);
        s.is("copy(2, 0, 3, 0, 0), of empty ones", x.copy(2, 0, 3, 0, 0), 0);
        x = with(3, 64, new long[40]);
        x.sheet(2, 64, 40);
        x.write(3, 0, Long.MIN_VALUE);
        x.write(3, 39, -9);
        s.is("copy(3, 0, 2, 0, 40), of the most", x.copy(3, 0, 2, 0, 40), 40);
        s.is("write(2, 0, 0)", x.write(2, 0, 0), Long.MIN_VALUE);
        s.is("write(2, 39, 0)", x.write(2, 39, 0), -9);
    }

    private void copyRefused() {
        Supplier<SlipWeeks> two = SheetSentences::two;
        s.of("Promise 35", "BEYOND: no such sheet (either).");
        for (int sheet : new int[] {-1, 4, MIN, MAX}) {
            s.refused(two, Due.BEYOND, "copy", sheet, 0, 1, 0, 1);
            s.refused(two, Due.BEYOND, "copy", 0, 0, sheet, 0, 1);
            s.refused(two, Due.BEYOND, "copy", sheet, 0, 3, 0, 1);
            s.refused(two, Due.BEYOND, "copy", 3, 0, sheet, 0, 1);
        }
        s.of("Promise 35", "MISSING: one is.");
        s.refused(two, Due.MISSING, "copy", 3, 0, 0, 0, 1);
        s.refused(two, Due.MISSING, "copy", 0, 0, 3, 0, 1);
        s.refused(two, Due.MISSING, "copy", 3, 0, 3, 0, 0);
        s.refused(two, Due.MISSING, "copy", 3, -1, 2, 0, -1);
        s.of("Promise 35", "KIND: they are not of as many bits.");
        s.refused(two, Due.KIND, "copy", 0, 0, 2, 0, 1);
        s.refused(two, Due.KIND, "copy", 2, 0, 0, 0, 0);
        s.refused(two, Due.KIND, "copy", 2, 0, 0, 0, -1);
        s.refused(two, Due.KIND, "copy", 2, 7, 0, 7, 1);
        s.of("Promise 35", "BEYOND: one has not so many, or from, to or n is below 0.");
        int[][] no = {{0, 0, 1, 0, 5}, {0, 3, 1, 0, 4}, {0, 6, 1, 0, 1}, {0, 7, 1, 0, 0}, {0, 0, 1, 1, 4}, {0, 0, 1, 4, 1},
            {0, 0, 1, 5, 0}, {1, 0, 0, 0, 5}, {1, 1, 0, 0, 4}, {1, 5, 0, 0, 0}, {1, 0, 0, 3, 4}, {1, 0, 0, 7, 0},
            {0, -1, 1, 0, 1}, {0, 0, 1, -1, 1}, {0, 0, 1, 0, -1}, {0, -1, 1, 0, 0}, {0, 0, 1, -1, 0},
            {0, MIN, 1, 0, 1}, {0, 0, 1, MIN, 1}, {0, 0, 1, 0, MIN}, {0, MAX, 1, 0, 1}, {0, 0, 1, MAX, 1}, {0, 0, 1, 0, MAX},
            {0, 1, 1, 0, MAX}, {0, 0, 1, 1, MAX}, {0, MAX, 1, 0, MAX}, {0, 0, 1, MAX, MAX}, {0, MIN, 1, MIN, MIN},
            {0, MAX, 1, 0, MIN}, {0, 2, 0, 0, 5}, {0, 0, 0, 2, 5}, {0, 0, 0, 0, 7}};
        for (int[] a : no) {
            s.refused(two, Due.BEYOND, "copy", a[0], a[1], a[2], a[3], a[4]);
        }
    }

    private void weeks() {
        s.of("Promise 36", "Numbers of a sheet are DRAWS (bits), one by one as by told() (those that are no ROW are left out; "
            + "when THE BOOK is full no more come, which is no finding): how many WEEKS came.");
        SlipWeeks x = with(0, 64, 3840, 14, 15, 31, 0, -1, 4096 + 7, 4096 + 15, 1L << 32 | 15, Long.MIN_VALUE | 15, 240);
        x.people(4, 4950);
        x.seed(9);
        s.is("weeks(0)", x.weeks(0), 3);
        int[] draws = {3840, 15, 240};
        // By the latest: without one all like alike; then each week's row has rank 0 by the one ahead, of 2475 likes together.
        int[] winners = {10, 2, 2};
        for (int w = 0; w < 3; w++) {
            s.is("book(" + w + ", 0)", x.book(w, 0), draws[w]);
            s.is("book(" + w + ", 1)", x.book(w, 1), winners[w]);
        }
        s.is("count(1)", x.count(1), 3);
        s.is("count(6), z stays", x.count(6), 9);
        s.is("status(-1)", x.status(-1), 0);
        SlipWeeks y = with(1, 8, 15, 120, 240, 0x4b, 7);
        s.is("weeks(1) of 8 bits, 240 of which is below 0", y.weeks(1), 3);
        y = with(1, 16, 3840, 15, 32767, 4095);
        s.is("weeks(1) of 16 bits", y.weeks(1), 2);
        s.is("weeks(1) of none", with(1, 8).weeks(1), 0);
        s.is("weeks(1) of no rows", with(1, 64, 1, 2, 3).weeks(1), 0);
        s.is("weeks(1) of 40 that are no rows", with(1, 64, new long[40]).weeks(1), 0);
    }

    private void weeksTillFull() {
        long[] numbers = new long[40];
        for (int i = 0; i < 40; i++) {
            numbers[i] = 15;
        }
        SlipWeeks x = with(0, 16, numbers);
        s.is("weeks(0) of 40", x.weeks(0), 40);
        s.is("weeks(0) when it is full", x.weeks(0), 0);
        s.is("count(1)", x.count(1), 40);
        s.is("status(-1), no finding", x.status(-1), 0);
        x = with(0, 16, numbers);
        x.told(240);
        s.is("weeks(0) of 40 with room for 39", x.weeks(0), 39);
        s.is("status(-1), no finding", x.status(-1), 0);
        s.is("book(39, 0)", x.book(39, 0), 15);
        s.of("Promise 36", "BEYOND: no such sheet.");
        noSheet("weeks");
        s.refused(Looks::fullOfWeeks, Due.BEYOND, "weeks", 4);
        s.of("Promise 36", "MISSING.");
        s.refused(Looks::settled, Due.MISSING, "weeks", 3);
        s.refused(() -> {
            SlipWeeks y = Looks.fullOfWeeks();
            y.sheet(3, 0, 0);
            return y;
        }, Due.MISSING, "weeks", 3);
    }

    private void noSheet(String name) {
        for (int sheet : new int[] {-1, 4, MIN, MAX}) {
            s.refused(Looks::settled, Due.BEYOND, name, sheet);
        }
    }

    private void read() {
        s.of("Promise 37", "THE READER: numbers of a sheet are WINNERS of RANK 2 of WEEKS 0, 1, ..: "
            + "0 if all (as many as the sheet has) are right, else 1 and the place of the first that isn't, or stands for no WEEK.");
        s.is("of no numbers, no week", with(0, 64).read(0), 0);
        s.is("of one, no week", with(0, 64, 0).read(0), 1);
        s.is("168 169", reader(64, 168, 169), 0);
        s.is("168", reader(64, 168), 0);
        s.is("none", reader(64), 0);
        s.is("167", reader(64, 167), 1);
        s.is("168 168", reader(64, 168, 168), 2);
        s.is("1 2, the first that isn't", reader(64, 1, 2), 1);
        s.is("168 169 0, the third for no week", reader(64, 168, 169, 0), 3);
        s.is("168 170 0, the first of both", reader(64, 168, 170, 0), 2);
        s.is("168 and a bit above the lowest 32", reader(64, 168L | 1L << 32, 169), 1);
        s.is("of 16 bits", reader(16, 168, 169), 0);
        s.is("of 8 bits, below 0", reader(8, 168, 169), 1);
        long[] forty = new long[40];
        SlipWeeks x = with(0, 16, forty);
        for (int i = 0; i < 40; i++) {
            s.is("read(0) behind " + i + " weeks", x.read(0), i + 1);
            x.told(15);
        }
        s.is("read(0) behind 40 weeks", x.read(0), 0);
        x.write(0, 39, 1);
        s.is("read(0), the last isn't", x.read(0), 40);
        s.is("status(-1)", x.status(-1), 0);
        s.of("Promise 37", "BEYOND: no such sheet.");
        noSheet("read");
        s.of("Promise 37", "MISSING.");
        s.refused(Looks::settled, Due.MISSING, "read", 3);
    }

    /** What the reader says behind two weeks of 168 and 169 winners of rank 2. */
    private static int reader(int bits, long... numbers) {
        SlipWeeks x = with(0, bits, numbers);
        x.people(3, 495);
        x.told(3840);
        x.buys(0, 1);
        x.told(RowSentences.bits(0, 1, 10, 11));
        return x.read(0);
    }
}
