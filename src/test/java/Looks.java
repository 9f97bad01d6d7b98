import java.util.Arrays;
import java.util.List;

/** All that an object tells, by calls that any object can be asked, and objects that are worth a look. */
final class Looks {
    private final SlipWeeks x;
    private final List<String> calls;
    private final long[] seen = new long[400];
    private int size;

    private Looks(SlipWeeks x, List<String> calls) {
        this.x = x;
        this.calls = calls;
    }

    static String told(String name, long... a) {
        StringBuilder b = new StringBuilder(name).append('(');
        for (int i = 0; i < a.length; i++) {
            b.append(i > 0 ? ", " : "").append(a[i]);
        }
        return b.append(')').toString();
    }

    private void ask(String name, long... a) {
        if (calls != null) {
            calls.add(told(name, a));
        }
        seen[size++] = Calls.on(x, name, a);
    }

    /** Some 180 calls, those that change something last; the names of the calls are put into a list. */
    static long[] all(SlipWeeks x, List<String> calls) {
        Looks l = new Looks(x, calls);
        l.questions();
        l.worths();
        l.drums();
        l.sheets();
        l.changes();
        return Arrays.copyOf(l.seen, l.size);
    }

    private void questions() {
        for (int what = 0; what < 8; what++) {
            ask("count", what);
        }
        for (int p = 0; p < 12; p++) {
            ask("of", p, 0);
            ask("of", p, 1);
        }
        for (int p = 0; p < 3; p++) {
            ask("likes", p, 100);
            ask("crossed", p, 494);
        }
        for (int w : new int[] {0, 1, 2, 38, 39}) {
            for (int what = 0; what < 8; what++) {
                ask("book", w, what);
            }
        }
    }

    private void worths() {
        ask("now");
        ask("worth", 0);
        ask("worth", 494);
        ask("best", 0);
        ask("best", 1);
        ask("alone", 0);
        ask("line", 7);
        ask("house", 3);
        ask("house", 495);
        ask("seek", 9, 0);
        ask("seek", 9, 1);
        for (int p : new int[] {0, 1, 5, 39, 40, 100, 494}) {
            ask("shares", p);
        }
    }

    private void drums() {
        for (int n = 0; n < 12; n++) {
            ask("due", n);
            ask("came", n);
        }
        ask("felt", 0);
        ask("felt", 5);
        ask("drum");
    }

    private void sheets() {
        for (int s = 0; s < 4; s++) {
            ask("read", s);
            for (int i : new int[] {0, 1, 2, 3, 39}) {
                ask("write", s, i, 15);
            }
        }
    }

    private void changes() {
        ask("buys", 5, 1);
        ask("week");
        ask("feed", '1', 1);
        ask("liking");
        ask("likes", 0, 0);
        ask("wipe");
        ask("weeks", 2);
        for (int what = 0; what < 8; what++) {
            ask("rule", what, 1);
        }
        ask("seed", 3);
        ask("undo");
        for (int what = 0; what < 8; what++) {
            ask("count", what);
        }
        ask("rule", 0, 1);
        ask("shares", 5);
        ask("book", 0, 1);
        ask("tear");
        ask("even");
        ask("returned");
    }

    /** Something of all that an object can hold. */
    static SlipWeeks settled() {
        SlipWeeks x = new SlipWeeks();
        for (int kind = 0; kind < 8; kind++) {
            x.people(kind, 1000 + 500 * kind);
        }
        x.buys(5, 12);
        Due.liking(x, "1+s-d");
        x.rule(0, 3);
        x.rule(5, 20);
        x.rule(6, 4);
        x.rule(7, 5000);
        x.told(15);
        x.image();
        x.people(6, 700);
        x.buys(100, 7);
        x.rule(2, 55);
        x.week();
        x.sheet(0, 8, 3);
        x.write(0, 1, -7);
        x.sheet(1, 16, 4);
        x.write(1, 0, 300);
        x.sheet(2, 64, 2);
        x.write(2, 0, 3840);
        Due.tape(x, "2+");
        return x;
    }

    static SlipWeeks fullOfPeople() {
        SlipWeeks x = settled();
        for (int i = 0; i < 3; i++) {
            x.people(i, 40 * i);
        }
        return x;
    }

    /** 40 rows bought, of one of them (place 5) 99999. */
    static SlipWeeks fullOfBought() {
        SlipWeeks x = settled();
        for (int i = 0; i < 9; i++) {
            x.buys(5, 9999);
        }
        x.buys(5, 9996);
        for (int i = 0; i < 38; i++) {
            x.buys(400 - i, 1 + i);
        }
        return x;
    }

    /** 58 bytes, all but the last two of which go on. */
    static SlipWeeks fullOfTape() {
        SlipWeeks x = settled();
        for (int i = 0; i < 14; i++) {
            x.feed(0x312b322a, 4);
        }
        return x;
    }

    static SlipWeeks fullOfWeeks() {
        SlipWeeks x = settled();
        x.sheet(3, 16, 38);
        for (int i = 0; i < 38; i++) {
            x.write(3, i, i % 3 == 0 ? 15 : i % 3 == 1 ? 240 : 3840);
        }
        x.weeks(3);
        return x;
    }
}
