/** Promises 33 to 37: sheets, weeks by a sheet, the reader. */
public final class SheetsTest {
    private static final Due DUE = new Due();
    private static final int MIN = Integer.MIN_VALUE;
    private static final int MAX = Integer.MAX_VALUE;

    public static void main(String[] args) {
        sheets();
        writes();
        copies();
        weeks();
        reader();
        DUE.end();
    }

    private static void sheets() {
        SlipWeeks x = new SlipWeeks();
        DUE.is("sheet(4, 8, 1)", x.sheet(4, 8, 1), Due.BEYOND);
        DUE.is("sheet(-1, 8, 1)", x.sheet(-1, 8, 1), Due.BEYOND);
        for (int bits : new int[] {1, 7, 9, 15, 32, 63, 65, -8, 24, MIN, MAX}) {
            DUE.is("sheet(0, " + bits + ", -1)", x.sheet(0, bits, -1), Due.BEYOND);
        }
        for (int bits : new int[] {0, 8, 16, 64}) {
            DUE.is("sheet(0, " + bits + ", -1)", x.sheet(0, bits, -1), Due.SIZE);
            DUE.is("sheet(0, " + bits + ", MIN)", x.sheet(0, bits, MIN), Due.SIZE);
            DUE.is("sheet(0, " + bits + ", 41)", x.sheet(0, bits, 41), Due.BEYOND);
            DUE.is("sheet(0, " + bits + ", MAX)", x.sheet(0, bits, MAX), Due.BEYOND);
        }
        DUE.is("sheet(4, 8, -1)", x.sheet(4, 8, -1), Due.BEYOND);
        DUE.is("sheet(3, 64, 40)", x.sheet(3, 64, 40), 40);
        DUE.is("sheet(2, 8, 0)", x.sheet(2, 8, 0), 0);
        DUE.is("write(2, 0, 1) on none", x.write(2, 0, 1), Due.BEYOND);
        DUE.is("write(3, 39, 5)", x.write(3, 39, 5), 0);
        DUE.is("sheet(3, 0, 41)", x.sheet(3, 0, 41), Due.BEYOND);
        DUE.is("it stays", x.write(3, 39, 6), 5);
        DUE.is("sheet(3, 0, 40)", x.sheet(3, 0, 40), 0);
        DUE.is("write(3, 39, 5)", x.write(3, 39, 5), Due.MISSING);
        DUE.is("sheet(3, 0, 0)", x.sheet(3, 0, 0), 0);
        DUE.is("sheet(3, 64, 40)", x.sheet(3, 64, 40), 40);
        DUE.is("all 0", x.write(3, 39, 7), 0);
        DUE.is("sheet(3, 64, 40) anew", x.sheet(3, 64, 40), 40);
        DUE.is("all 0 again", x.write(3, 39, 7), 0);
        DUE.is("status(6)", x.status(6), 8);
        DUE.is("status(5)", x.status(5), 1);
    }

    private static void writes() {
        SlipWeeks x = new SlipWeeks();
        x.sheet(0, 8, 3);
        x.sheet(1, 16, 3);
        x.sheet(2, 64, 3);
        DUE.is("write(0, 1, 511)", x.write(0, 1, 511), 0);
        DUE.is("write(0, 1, 128)", x.write(0, 1, 128), -1);
        DUE.is("write(0, 1, -129)", x.write(0, 1, -129), -128);
        DUE.is("write(0, 1, 0)", x.write(0, 1, 0), 127);
        DUE.is("write(1, 2, 65535)", x.write(1, 2, 65535), 0);
        DUE.is("write(1, 2, 32768)", x.write(1, 2, 32768), -1);
        DUE.is("write(1, 2, 1L << 40 | 7)", x.write(1, 2, 1L << 40 | 7), -32768);
        DUE.is("write(1, 2, 0)", x.write(1, 2, 0), 7);
        DUE.is("write(2, 0, MIN)", x.write(2, 0, Long.MIN_VALUE), 0);
        DUE.is("write(2, 0, -1000000001)", x.write(2, 0, -1000000001L), Long.MIN_VALUE);
        DUE.is("write(2, 0, 0), no finding", x.write(2, 0, 0), -1000000001L);
        DUE.is("status(-1)", x.status(-1), 0);
        DUE.is("write(0, 3, 1)", x.write(0, 3, 1), Due.BEYOND);
        DUE.is("write(0, -1, 1)", x.write(0, -1, 1), Due.BEYOND);
        DUE.is("write(0, MAX, 1)", x.write(0, MAX, 1), Due.BEYOND);
        DUE.is("write(3, -1, 1)", x.write(3, -1, 1), Due.MISSING);
        DUE.is("write(4, 0, 1)", x.write(4, 0, 1), Due.BEYOND);
        DUE.is("write(-1, 0, 1)", x.write(-1, 0, 1), Due.BEYOND);
        DUE.is("others stay", x.write(0, 0, 0) + x.write(0, 2, 0) + x.write(1, 0, 0), 0);
    }

    private static void fill(SlipWeeks x, int s, int n) {
        for (int i = 0; i < n; i++) {
            x.write(s, i, 10 * s + i + 1);
        }
    }

    private static void holds(SlipWeeks x, int s, int... want) {
        for (int i = 0; i < want.length; i++) {
            DUE.is("number " + i + " of " + s, x.write(s, i, want[i]), want[i]);
        }
    }

    private static void copies() {
        SlipWeeks x = new SlipWeeks();
        x.sheet(0, 8, 6);
        x.sheet(1, 8, 4);
        x.sheet(2, 16, 6);
        fill(x, 0, 6);
        fill(x, 1, 4);
        DUE.is("copy(0, 0, 0, 2, 4)", x.copy(0, 0, 0, 2, 4), 4);
        holds(x, 0, 1, 2, 1, 2, 3, 4);
        fill(x, 0, 6);
        DUE.is("copy(0, 2, 0, 0, 4)", x.copy(0, 2, 0, 0, 4), 4);
        holds(x, 0, 3, 4, 5, 6, 5, 6);
        DUE.is("copy(0, 1, 1, 2, 2)", x.copy(0, 1, 1, 2, 2), 2);
        holds(x, 1, 11, 12, 4, 5);
        DUE.is("copy(1, 0, 0, 2, 4)", x.copy(1, 0, 0, 2, 4), 4);
        holds(x, 0, 3, 4, 11, 12, 4, 5);
        DUE.is("copy(0, 6, 1, 4, 0)", x.copy(0, 6, 1, 4, 0), 0);
        DUE.is("copy(0, 7, 1, 4, 0)", x.copy(0, 7, 1, 4, 0), Due.BEYOND);
        DUE.is("copy(0, 6, 1, 5, 0)", x.copy(0, 6, 1, 5, 0), Due.BEYOND);
        DUE.is("copy(0, 2, 1, 0, 5)", x.copy(0, 2, 1, 0, 5), Due.BEYOND);
        DUE.is("copy(1, 1, 0, 0, 4)", x.copy(1, 1, 0, 0, 4), Due.BEYOND);
        DUE.is("copy(0, 0, 1, 1, 4)", x.copy(0, 0, 1, 1, 4), Due.BEYOND);
        DUE.is("copy(0, 1, 1, 1, MAX)", x.copy(0, 1, 1, 1, MAX), Due.BEYOND);
        DUE.is("copy(0, MAX, 1, 0, 1)", x.copy(0, MAX, 1, 0, 1), Due.BEYOND);
        DUE.is("copy(0, 0, 1, MAX, MAX)", x.copy(0, 0, 1, MAX, MAX), Due.BEYOND);
        DUE.is("copy(0, -1, 1, 0, 1)", x.copy(0, -1, 1, 0, 1), Due.BEYOND);
        DUE.is("copy(0, 0, 1, -1, 1)", x.copy(0, 0, 1, -1, 1), Due.BEYOND);
        DUE.is("copy(0, 0, 1, 0, -1)", x.copy(0, 0, 1, 0, -1), Due.BEYOND);
        DUE.is("copy(0, 0, 1, 0, MIN)", x.copy(0, 0, 1, 0, MIN), Due.BEYOND);
        DUE.is("copy(0, 0, 2, 0, -1)", x.copy(0, 0, 2, 0, -1), Due.KIND);
        DUE.is("copy(0, 0, 3, 0, -1)", x.copy(0, 0, 3, 0, -1), Due.MISSING);
        DUE.is("copy(3, 0, 2, 0, 1)", x.copy(3, 0, 2, 0, 1), Due.MISSING);
        DUE.is("copy(3, 0, 4, 0, 1)", x.copy(3, 0, 4, 0, 1), Due.BEYOND);
        DUE.is("copy(-1, 0, 3, 0, 1)", x.copy(-1, 0, 3, 0, 1), Due.BEYOND);
        DUE.is("copy(0, 0, -1, 0, 1)", x.copy(0, 0, -1, 0, 1), Due.BEYOND);
        holds(x, 0, 3, 4, 11, 12, 4, 5);
        holds(x, 1, 11, 12, 4, 5);
    }

    private static void weeks() {
        SlipWeeks x = new SlipWeeks();
        DUE.is("weeks(0)", x.weeks(0), Due.MISSING);
        DUE.is("weeks(4)", x.weeks(4), Due.BEYOND);
        DUE.is("weeks(-1)", x.weeks(-1), Due.BEYOND);
        x.sheet(0, 64, 7);
        x.write(0, 0, 3840);
        x.write(0, 1, 1L << 32 | 15);
        x.write(0, 2, -15);
        x.write(0, 3, 14);
        x.write(0, 4, 4096 + 7);
        x.write(0, 5, 15);
        x.people(4, 4950);
        int z = x.count(6);
        DUE.is("weeks(0)", x.weeks(0), 2);
        DUE.is("book(0, 0)", x.book(0, 0), 3840);
        DUE.is("book(1, 0)", x.book(1, 0), 15);
        DUE.is("z stays", x.count(6), z);
        // The second week goes by the first as the latest: 0 1 2 3 was liked 1 of 495 and 3 times 660.
        DUE.is("book(0, 1)", x.book(0, 1), 10);
        DUE.is("book(1, 1)", x.book(1, 1), 4950 / (495 + 1980));
        x.sheet(1, 8, 40);
        for (int i = 0; i < 40; i++) {
            x.write(1, i, 15);
        }
        DUE.is("weeks(1) till it is full", x.weeks(1), 38);
        DUE.is("weeks(1) when it is", x.weeks(1), 0);
        DUE.is("count(1)", x.count(1), 40);
        DUE.is("no more findings", x.status(-1), 3);
        x.sheet(2, 8, 0);
        DUE.is("weeks(2)", x.weeks(2), 0);
    }

    private static void reader() {
        SlipWeeks x = new SlipWeeks();
        DUE.is("read(0)", x.read(0), Due.MISSING);
        DUE.is("read(4)", x.read(4), Due.BEYOND);
        DUE.is("read(-1)", x.read(-1), Due.BEYOND);
        x.sheet(0, 16, 0);
        DUE.is("read(0) of none", x.read(0), 0);
        x.people(3, 495);
        x.sheet(0, 16, 3);
        DUE.is("read(0), no week", x.read(0), 1);
        x.told(15);
        x.buys(0, 1);
        x.told(0b110011);
        x.write(0, 0, 168);
        x.write(0, 1, 169);
        DUE.is("read(0), two right", x.read(0), 3);
        x.told(15);
        x.write(0, 2, 168);
        DUE.is("read(0), all right", x.read(0), 0);
        x.write(0, 1, 168);
        DUE.is("read(0), one wrong", x.read(0), 2);
        x.sheet(1, 64, 1);
        x.write(1, 0, 168 + (1L << 32));
        DUE.is("read(1), right by its lowest bits alone", x.read(1), 1);
        x.write(1, 0, 168);
        DUE.is("read(1), fewer than weeks", x.read(1), 0);
        x.sheet(2, 8, 1);
        x.write(2, 0, 168);
        DUE.is("read(2), too few bits", x.read(2), 1);
    }
}
