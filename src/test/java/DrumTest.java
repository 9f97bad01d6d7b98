/** Promises 29 to 32: what is due, what came, the drum, what is felt. */
public final class DrumTest {
    private static final Due DUE = new Due();

    public static void main(String[] args) {
        SlipWeeks x = new SlipWeeks();
        wrong(x);
        for (int n = 0; n < 12; n++) {
            DUE.is("due(" + n + ") without a week", x.due(n), 0);
            DUE.is("came(" + n + ") without a week", x.came(n), 0);
            DUE.is("felt(" + n + ") without a week", x.felt(n), Due.NONE);
        }
        DUE.is("drum()", x.drum(), 0);
        x.people(3, 495);
        x.told(0b000000001111);
        DUE.is("felt(0), in all", x.felt(0), Due.NONE);
        DUE.is("felt(4), in none", x.felt(4), Due.NONE);
        // Of a week: 4 numbers are 8 off, 8 are 4 off.
        DUE.is("drum()", x.drum(), 4 * 64 + 8 * 16);
        x.buys(0, 7);
        x.told(0b000000110011);
        x.told(0b000011000011);
        x.returned();
        x.told(0b111100000000);
        // Winners of rank 2: 168, 175, 175, 168.
        int[] due = {1, 1, 3, 3, 2, 2, 1, 1, 0, 0, 0, 0};
        int[] came = {3, 3, 1, 1, 1, 1, 1, 1, 1, 1, 1, 1};
        for (int n = 0; n < 12; n++) {
            DUE.is("due(" + n + ")", x.due(n), due[n]);
            DUE.is("came(" + n + ")", x.came(n), came[n]);
        }
        DUE.is("book(1, 3)", x.book(1, 3), 175);
        // (168 + 175 + 175) by 3 is cut to 172.
        DUE.is("felt(0)", x.felt(0), 172 - 168);
        DUE.is("felt(2)", x.felt(2), 168 - 172);
        DUE.is("felt(4)", x.felt(4), 175 - (168 + 175 + 168) / 3);
        DUE.is("felt(11)", x.felt(11), 168 - 172);
        // 2 numbers are 36 - 16 off, 10 are 12 - 16 off.
        DUE.is("drum()", x.drum(), 2 * 400 + 10 * 16);
        never();
        DUE.end();
    }

    private static void wrong(SlipWeeks x) {
        for (int n : new int[] {-1, 12, Integer.MIN_VALUE, Integer.MAX_VALUE, 32}) {
            DUE.is("due(" + n + ")", x.due(n), Due.BEYOND);
            DUE.is("came(" + n + ")", x.came(n), Due.BEYOND);
            DUE.is("felt(" + n + ")", x.felt(n), Due.BEYOND);
        }
    }

    private static void never() {
        SlipWeeks x = new SlipWeeks();
        for (int i = 0; i < 40; i++) {
            x.told(15);
        }
        DUE.is("due(11), never", x.due(11), 40);
        DUE.is("due(0)", x.due(0), 0);
        DUE.is("came(0)", x.came(0), 40);
        DUE.is("drum()", x.drum(), 4 * 320 * 320 + 8 * 160 * 160);
    }
}
