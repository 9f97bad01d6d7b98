/** Counts the answers that are not the ones that are due; each test ends by end(). */
final class Due {
    static final long BEYOND = -1000000001L;
    static final long FULL = -1000000002L;
    static final long KIND = -1000000003L;
    static final long NONE = -1000000004L;
    static final long MISSING = -1000000006L;
    static final long SIZE = -1000000007L;

    private int wrong;
    private int asked;

    void is(String call, long got, long want) {
        asked++;
        if (got != want) {
            wrong++;
            System.out.println(call + " answered " + got + ", due is " + want);
        }
    }

    void end() {
        System.out.println(asked + " answers, " + wrong + " not as due");
        if (wrong != 0) {
            System.exit(1);
        }
    }

    /** Puts a text on the tape, byte by byte. */
    static void tape(SlipWeeks x, String text) {
        for (int i = 0; i < text.length(); i++) {
            x.feed(text.charAt(i), 1);
        }
    }

    /** What liking() answers to a text alone on the tape. */
    static int liking(SlipWeeks x, String text) {
        x.wipe();
        tape(x, text);
        return x.liking();
    }
}
