/** Promises 12 to 15: the tape, the liking, what it says, its faults. */
public final class LikingTest {
    private static final Due DUE = new Due();

    public static void main(String[] args) {
        tapes();
        faults();
        values();
        changes();
        DUE.end();
    }

    private static void tapes() {
        SlipWeeks x = new SlipWeeks();
        DUE.is("feed(1, 0)", x.feed(1, 0), Due.BEYOND);
        DUE.is("feed(1, 5)", x.feed(1, 5), Due.BEYOND);
        DUE.is("feed(1, -1)", x.feed(1, -1), Due.BEYOND);
        for (int i = 1; i < 15; i++) {
            DUE.is("feed(0x73737373, 4)", x.feed(0x73737373, 4), 4 * i);
        }
        DUE.is("feed(0, 3)", x.feed(0, 3), 59);
        DUE.is("feed(0, 2) on 59", x.feed(0, 2), Due.FULL);
        DUE.is("feed(0, 5) on 59", x.feed(0, 5), Due.BEYOND);
        DUE.is("count(5)", x.count(5), 59);
        DUE.is("feed(0, 1)", x.feed(0, 1), 60);
        DUE.is("feed(0, 1) on 60", x.feed(0, 1), Due.FULL);
        DUE.is("wipe()", x.wipe(), 60);
        DUE.is("wipe()", x.wipe(), 0);
        DUE.is("count(5)", x.count(5), 0);
        // The lowest n bytes, the highest of them first: 12 of ?(12, 7 of ??.7.
        x.people(0, 1);
        x.feed(0x28283132, 2);
        DUE.is("liking() of 12", x.liking(), 0);
        DUE.is("likes", x.likes(0, 5), 12);
        x.feed(0xff28372b, 2);
        x.feed('1', 1);
        x.feed(0xff2a322d, 3);
        x.feed(0x00000033, 1);
        DUE.is("liking() of 7+1*2-3", x.liking(), 0);
        DUE.is("likes", x.likes(0, 5), 6);
        DUE.is("count(5)", x.count(5), 0);
    }

    private static void fault(String text, int place) {
        SlipWeeks x = new SlipWeeks();
        Due.tape(x, text);
        int size = text.length();
        DUE.is("liking() of " + text, x.liking(), place < 0 ? 0 : -1 - place);
        DUE.is("count(5) behind " + text, x.count(5), place < 0 ? 0 : size);
        DUE.is("count(4) behind " + text, x.count(4), place < 0 ? 1 : 0);
        DUE.is("status(-1) behind " + text, x.status(-1), 0);
    }

    private static void faults() {
        fault("", 0);
        fault("s", -1);
        fault("000", -1);
        fault("0000", 3);
        fault("s s", 1);
        fault(" s", 0);
        fault("x", 0);
        fault("S", 0);
        fault("ss", 1);
        fault("s1", 1);
        fault("1s", 1);
        fault("-s", 0);
        fault("s+", 2);
        fault("s+-1", 2);
        fault("s**1", 2);
        fault("s*", 2);
        fault("s/2", 1);
        fault("()", 1);
        fault("(s", 2);
        fault("(s))", 3);
        fault("s)", 1);
        fault("s?1:2", 1);
        fault("(s?1:2)", -1);
        fault("(s:1)", 2);
        fault("(s?1?2:3)", 4);
        fault("(s?1)", 4);
        fault("(s?1:2:3)", 6);
        fault("(s?1:2?3)", 6);
        fault("(s?1:2", 6);
        fault("(s?", 3);
        fault("(s?1:", 5);
        fault("(s?:1)", 3);
        fault("((((s))))", -1);
        fault("(((((s)))))", 4);
        fault("((((s))))*((((1))))", -1);
        fault("((((s)+(1)+(2))))", -1);
        fault("((((s?(1):2))))", 6);
        fault("(((s?(1):(2))))", -1);
        fault("1234+", 3);
        fault("(s)(s)", 3);
        fault("2(s)", 1);
        fault("s\u00ff", 1);
        fault("\u0080", 0);
        fault("s\u0000", 1);
        fault("1+".repeat(29) + "99", -1);
        fault("1+".repeat(30), 60);
    }

    private static int say(String text, int row) {
        SlipWeeks x = new SlipWeeks();
        x.people(0, 1);
        x.told(0b011110000000);
        x.told(0b000001111000);
        DUE.is("liking() of " + text, Due.liking(x, text), 0);
        return x.likes(0, x.place(row));
    }

    private static void says(String text, int row, int want) {
        DUE.is(text + " of " + row, say(text, row), want);
    }

    private static void values() {
        int row = 1 << 1 | 1 << 4 | 1 << 5 | 1 << 6;
        says("s", row, 16);
        says("l", row, 1);
        says("g", row, 6);
        says("e", row, 2);
        says("c", row, 3);
        says("d", row, 3);
        says("w", row, 2);
        says("c", 0b010101010000, 1);
        says("c", 0b000001011010, 2);
        says("c", 0b000110011000, 2);
        says("c", 0b111100000000, 4);
        says("c", 0b100000000111, 3);
        says("l", 0b111100000000, 8);
        says("g", 0b111100000000, 11);
        says("s", 0b111100000000, 38);
        says("e", 0b010101010000, 4);
        says("d", 0b111100000000, 0);
        says("2+3*4", row, 14);
        says("(2+3)*4", row, 20);
        says("9-3-2", row, 4);
        says("9-3+2", row, 8);
        says("2*3*4", row, 24);
        says("0-5", row, 0);
        says("99", row, 99);
        says("100", row, 99);
        says("999-950", row, 49);
        says("007", row, 7);
        says("(1?2:3)", row, 2);
        says("(0?2:3)", row, 3);
        says("(0-1?2:3)", row, 3);
        says("((s-15)?(l?7:8):9)+1", row, 8);
        says("((s-16)?7:(d-3?8:(c-2?5:6)))", row, 5);
        // It goes round: 999*999*999*3 is 2991008997, an int below 0; five times it is above again.
        says("999*999*999*5", row, 99);
        says("999*999*999*3", row, 0);
        says("(999*999*999*3?1:2)", row, 2);
        says("999*999*999*3-999*999*999*3+4", row, 4);
        SlipWeeks x = new SlipWeeks();
        x.people(0, 1);
        Due.liking(x, "1+d*10+w");
        DUE.is("d and w without a week", x.likes(0, 0), 1);
    }

    private static void changes() {
        SlipWeeks x = new SlipWeeks();
        x.people(0, 495);
        DUE.is("even() without one", x.even(), 0);
        Due.liking(x, "w+d");
        DUE.is("crossed, none liked", x.crossed(0, 0), 0);
        x.told(15);
        DUE.is("likes(0, 0)", x.likes(0, 0), 5);
        DUE.is("likes(0, 494)", x.likes(0, 494), 1);
        Due.tape(x, "4+");
        DUE.is("liking() with a fault", x.liking(), -3);
        DUE.is("the old one stays", x.likes(0, 0), 5);
        DUE.is("the tape stays", x.count(5), 2);
        Due.tape(x, "1");
        DUE.is("liking() of the longer tape", x.liking(), 0);
        DUE.is("likes(0, 0)", x.likes(0, 0), 5);
        DUE.is("likes(0, 494)", x.likes(0, 494), 5);
        DUE.is("count(4)", x.count(4), 1);
        DUE.is("even()", x.even(), 1);
        DUE.is("even() again", x.even(), 0);
        DUE.is("count(4)", x.count(4), 0);
        DUE.is("likes(0, 0)", x.likes(0, 0), 1);
        DUE.is("liking() of nothing", x.liking(), -1);
        DUE.is("status(-1)", x.status(-1), 0);
    }
}
