/** Promises 38 to 42: images, counts, the status. */
public final class ImageTest {
    private static final Due DUE = new Due();

    public static void main(String[] args) {
        images();
        tears();
        counts();
        findings();
        DUE.end();
    }

    private static SlipWeeks settled() {
        SlipWeeks x = new SlipWeeks();
        x.people(1, 5000);
        x.people(4, 3000);
        x.buys(5, 12);
        Due.liking(x, "1+s");
        x.rule(0, 3);
        x.rule(7, 777);
        x.seed(99);
        x.told(15);
        x.week();
        return x;
    }

    /** All that an image keeps, by questions. */
    private static long[] look(SlipWeeks x) {
        long[] seen = new long[60];
        int n = 0;
        for (int what = 0; what < 8; what++) {
            seen[n++] = what == 5 ? 0 : x.count(what);
        }
        for (int p = 0; p < 3; p++) {
            seen[n++] = x.of(p, 0);
            seen[n++] = x.of(p, 1);
            seen[n++] = x.likes(p, 100);
        }
        for (int w = 0; w < 3; w++) {
            for (int what = 0; what < 8; what++) {
                seen[n++] = x.book(w, what);
            }
        }
        seen[n++] = x.shares(5);
        seen[n++] = x.now();
        seen[n++] = x.worth(7);
        seen[n++] = x.house(9);
        seen[n++] = x.line(494);
        seen[n++] = x.felt(0);
        return seen;
    }

    private static void same(String when, long[] got, long[] want) {
        for (int i = 0; i < want.length; i++) {
            DUE.is(when + ", look " + i, got[i], want[i]);
        }
    }

    private static void images() {
        SlipWeeks x = settled();
        long[] before = look(x);
        DUE.is("image()", x.image(), 1);
        same("behind image()", look(x), before);
        x.sheet(0, 8, 2);
        x.write(0, 1, 9);
        change(x);
        Due.tape(x, "12");
        int findings = x.status(-1);
        DUE.is("undo()", x.undo(), 2);
        DUE.is("the tape stays", x.count(5), 2);
        DUE.is("sheets stay", x.write(0, 1, 9), 9);
        DUE.is("findings stay", x.status(-1), findings);
        same("behind undo()", look(x), before);
        change(x);
        DUE.is("undo() once more", x.undo(), 2);
        same("behind the second undo()", look(x), before);
        x.even();
        x.returned();
        x.week();
        long[] later = look(x);
        DUE.is("image() in its stead", x.image(), 1);
        change(x);
        DUE.is("undo()", x.undo(), 3);
        same("behind undo() of the later", look(x), later);
    }

    private static void change(SlipWeeks x) {
        x.people(2, 1);
        x.many(0, 1);
        x.buys(5, 1);
        x.buys(6, 1);
        x.rule(0, 1);
        x.rule(2, 1);
        x.week();
        x.told(240);
        x.rule(7, 5);
        x.seed(5);
        int tape = x.wipe();
        Due.liking(x, "2*l");
        // Asked here, so that what was worked out for it would show behind undo().
        x.worth(0);
        DUE.is("the tape was empty or had two", tape == 0 || tape == 2 ? 1 : 0, 1);
    }

    private static void tears() {
        SlipWeeks x = new SlipWeeks();
        DUE.is("undo() of none", x.undo(), Due.NONE);
        DUE.is("tear() of none", x.tear(), 0);
        x.image();
        x.image();
        x.told(15);
        DUE.is("tear()", x.tear(), 1);
        DUE.is("tear() again", x.tear(), 0);
        DUE.is("undo()", x.undo(), Due.NONE);
        DUE.is("count(1)", x.count(1), 1);
        x.image();
        x.told(15);
        DUE.is("undo()", x.undo(), 1);
        DUE.is("undo() again", x.undo(), 1);
    }

    private static void counts() {
        SlipWeeks x = settled();
        DUE.is("count(0)", x.count(0), 2);
        DUE.is("count(1)", x.count(1), 2);
        DUE.is("count(3)", x.count(3), 1);
        DUE.is("count(4)", x.count(4), 1);
        Due.tape(x, "abc");
        DUE.is("count(5)", x.count(5), 3);
        x.seed(-5);
        DUE.is("count(6)", x.count(6), -5);
        x.rule(7, 4321);
        DUE.is("count(7)", x.count(7), 4321);
        DUE.is("count(8)", x.count(8), Due.BEYOND);
        DUE.is("count(-1)", x.count(-1), Due.BEYOND);
        x = new SlipWeeks();
        x.people(3, 994);
        x.buys(1, 3);
        DUE.is("count(2), each row cut", x.count(2), 990 + 3);
    }

    private static void findings() {
        SlipWeeks x = new SlipWeeks();
        x.place(0);
        x.row(-1);
        for (int i = 0; i < 16; i++) {
            x.feed(0, 4);
        }
        x.people(0, 1);
        x.as(0, 1);
        x.undo();
        x.felt(0);
        x.weeks(0);
        x.sheet(0, 8, -1);
        long[] want = {2, 1, 1, 2, 0, 1, 1};
        for (int f = 0; f < 7; f++) {
            DUE.is("status(" + f + ")", x.status(f), want[f]);
        }
        DUE.is("status(-1)", x.status(-1), 8);
        DUE.is("status(7)", x.status(7), Due.BEYOND);
        DUE.is("status(-2)", x.status(-2), Due.BEYOND);
        DUE.is("status(-1)", x.status(-1), 10);
        DUE.is("status(0)", x.status(0), 4);
    }
}
