import java.lang.management.ManagementFactory;
import java.util.Random;

/** No call throws or fails, whatever its arguments; an object is small and makes nothing more. */
public final class RoomTest {
    private static final int RUNS = 60;
    private static final int OBJECT_BYTES = 80000;
    private static final String[] NAMES = {"place", "row", "people", "of", "many", "as", "likes", "crossed", "buys", "returned",
        "feed", "wipe", "liking", "even", "rule", "seed", "week", "told", "book", "now", "worth", "best", "alone", "line", "house",
        "seek", "shares", "due", "came", "drum", "felt", "sheet", "write", "copy", "weeks", "read", "image", "undo", "tear", "count", "status"};
    private static final int[] WILD = {0, 1, -1, 2, 3, 4, 8, 12, 13, 15, 16, 39, 40, 41, 64, 100, 240, 494, 495, 3840, 4095, 9999, 99999,
        99999999, Integer.MAX_VALUE, Integer.MIN_VALUE, Integer.MAX_VALUE - 3, Integer.MIN_VALUE + 3, 1 << 30, -1 << 30, -1000000001};

    private static long allocated() {
        return ((com.sun.management.ThreadMXBean) ManagementFactory.getThreadMXBean()).getCurrentThreadAllocatedBytes();
    }

    private static long argument(Random r) {
        int k = r.nextInt(3);
        return k == 0 ? WILD[r.nextInt(WILD.length)] : k == 1 ? r.nextInt(13) : r.nextInt();
    }

    public static void main(String[] args) {
        Due due = new Due();
        allocated();
        new SlipWeeks();
        long before = allocated();
        SlipWeeks one = new SlipWeeks();
        long made = allocated() - before;
        due.is("an object of " + made + " bytes is small", made < OBJECT_BYTES ? 1 : 0, 1);
        due.is("and new", one.count(0), 0);
        Random r = new Random(5);
        for (int run = 0; run < RUNS; run++) {
            SlipWeeks x = new SlipWeeks();
            // Made ahead, so that only what the calls make is measured.
            String[] names = new String[512];
            long[][] a = new long[512][];
            for (int i = 0; i < 512; i++) {
                names[i] = NAMES[r.nextInt(NAMES.length)];
                a[i] = new long[] {argument(r), argument(r), argument(r), argument(r), argument(r)};
            }
            long start = allocated();
            for (int i = 0; i < 512; i++) {
                Calls.on(x, names[i], a[i]);
            }
            // The first run loads classes, which is counted too.
            long calls = allocated() - start;
            due.is("run " + run + " made " + calls + " bytes in its calls", run == 0 || calls < 4000 ? 1 : 0, 1);
        }
        due.end();
    }
}
