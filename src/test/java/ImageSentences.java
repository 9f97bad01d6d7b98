/** Sentences of promises 38 to 42: images, counts, the status. */
final class ImageSentences {
    private static final int MIN = Integer.MIN_VALUE;
    private static final int MAX = Integer.MAX_VALUE;
    private final Sentences s;

    ImageSentences(Sentences s) {
        this.s = s;
    }

    void run() {
        image();
        undo();
        tear();
        count();
        status();
    }

    /** All that sections 1 to 3 tell, so far as it can be asked. */
    private void same(String when, SlipWeeks x, SlipWeeks want) {
        for (int what : new int[] {0, 1, 2, 3, 4, 6, 7}) {
            s.is("count(" + what + ") " + when, x.count(what), want.count(what));
        }
        for (int p = 0; p < 12; p++) {
            s.is("of(" + p + ", 0) " + when, x.of(p, 0), want.of(p, 0));
            s.is("of(" + p + ", 1) " + when, x.of(p, 1), want.of(p, 1));
            s.is("likes(" + p + ", 50) " + when, x.likes(p, 50), want.likes(p, 50));
        }
        for (int p : new int[] {0, 5, 100, 494}) {
            s.is("shares(" + p + ") " + when, x.shares(p), want.shares(p));
        }
        for (int w : new int[] {0, 1, 2, 3, 39}) {
            for (int what = 0; what < 8; what++) {
                s.is("book(" + w + ", " + what + ") " + when, x.book(w, what), want.book(w, what));
            }
        }
        s.is("house(7) " + when, x.house(7), want.house(7));
        s.is("now() " + when, x.now(), want.now());
        s.is("felt(0) " + when, x.felt(0), want.felt(0));
        s.is("due(0) " + when, x.due(0), want.due(0));
    }

    private static SlipWeeks bare() {
        SlipWeeks x = new SlipWeeks();
        x.people(1, 5000);
        x.people(4, 3000);
        x.buys(5, 12);
        Due.liking(x, "1+s+d*w");
        x.rule(0, 3);
        x.rule(2, 40);
        x.rule(7, 777);
        x.told(15);
        x.week();
        return x;
    }

    private static void change(SlipWeeks x) {
        x.people(2, 1);
        x.many(0, 1);
        x.many(1, 77777);
        x.buys(5, 1);
        x.buys(6, 1);
        for (int what = 0; what < 8; what++) {
            x.rule(what, 9);
        }
        x.week();
        x.told(240);
        x.even();
        x.seed(5);
        x.now();
        x.worth(7);
    }

    private void image() {
        s.of("Promise 38", "All that sections 1 to 3 tell (THE TAPE not) is kept: 1.");
        SlipWeeks x = bare();
        x.sheet(0, 8, 2);
        Due.tape(x, "1+");
        s.is("image()", x.image(), 1);
        same("behind image()", x, bare());
        change(x);
        Due.tape(x, "2");
        x.write(0, 1, 7);
        int findings = x.status(-1);
        x.undo();
        s.is("the tape is not kept", x.count(5), 3);
        s.is("sheets are not", x.write(0, 1, 0), 7);
        s.is("findings are not", x.status(-1), findings);
        same("behind undo()", x, bare());
        x = new SlipWeeks();
        s.is("image() of nothing", x.image(), 1);
        change(x);
        x.people(0, 1);
        s.is("undo() to nothing", x.undo(), 0);
        same("behind undo() to nothing", x, new SlipWeeks());
        full();
    }

    private void full() {
        SlipWeeks x = Looks.fullOfBought();
        x.image();
        x.returned();
        x.buys(300, 5);
        x.undo();
        s.is("shares(5) again", x.shares(5), Looks.fullOfBought().shares(5));
        s.is("shares(300) again", x.shares(300), Looks.settled().shares(300));
        s.is("40 rows again", x.count(3), 40);
        s.is("the most of one again", x.buys(5, 1), Due.FULL);
        s.is("returned()", x.returned(), 99999 + 7 + 38 * 39 / 2);
        x = Looks.fullOfWeeks();
        x.image();
        s.is("undo() to 40 weeks", x.undo(), 40);
        s.is("told(15), still full", x.told(15), Due.FULL);
        x = new SlipWeeks();
        Due.liking(x, "1+".repeat(29) + "12");
        x.people(0, 1);
        x.image();
        Due.liking(x, "5");
        s.is("likes(0, 0)", x.likes(0, 0), 5);
        x.undo();
        s.is("likes(0, 0) by a liking of 60", x.likes(0, 0), 41);
    }

    private void undo() {
        s.of("Promise 39", "It becomes what was kept latest (which stays): how many WEEKS.");
        SlipWeeks x = bare();
        x.image();
        s.is("undo() at once", x.undo(), 2);
        change(x);
        s.is("undo()", x.undo(), 2);
        same("behind undo()", x, bare());
        change(x);
        s.is("undo() again, it stays", x.undo(), 2);
        s.is("undo() twice", x.undo(), 2);
        x.told(15);
        x.image();
        x.week();
        s.is("undo() to the later image", x.undo(), 3);
        x.even();
        x.image();
        s.is("undo() to the latest", x.undo(), 3);
        s.is("count(4)", x.count(4), 0);
        s.of("Promise 39", "NONE: nothing is kept.");
        s.refused(SlipWeeks::new, Due.NONE, "undo");
        s.refused(ImageSentences::bare, Due.NONE, "undo");
        s.refused(ImageSentences::torn, Due.NONE, "undo");
    }

    private static SlipWeeks torn() {
        SlipWeeks x = Looks.settled();
        x.tear();
        return x;
    }

    private void tear() {
        s.of("Promise 40", "Nothing is kept: 1 if something was, else 0.");
        SlipWeeks x = bare();
        s.is("tear() of nothing", x.tear(), 0);
        x.image();
        x.image();
        x.week();
        s.is("tear()", x.tear(), 1);
        s.is("tear() again", x.tear(), 0);
        s.is("undo()", x.undo(), Due.NONE);
        s.is("count(1), all else stays", x.count(1), 3);
        x.image();
        x.week();
        s.is("undo() to a new image", x.undo(), 3);
        s.is("tear() behind undo()", x.tear(), 1);
        s.is("status(-1)", x.status(-1), 1);
    }

    private void count() {
        s.of("Promise 41", "0 PEOPLE, 1 WEEKS, 2 all CROSSED together, 3 ROWS BOUGHT by hand, 4 1 if there is a LIKING, else 0, "
            + "5 bytes of THE TAPE, 6 z (any number), 7 THE POT.");
        SlipWeeks x = new SlipWeeks();
        int[] fresh = {0, 0, 0, 0, 0, 0, 1, 0};
        for (int what = 0; what < 8; what++) {
            s.is("count(" + what + "), new", x.count(what), fresh[what]);
        }
        x.people(3, 995);
        x.people(7, 0);
        x.people(7, 1);
        x.buys(0, 7);
        x.buys(0, 1);
        x.buys(494, 2);
        Due.liking(x, "0");
        Due.tape(x, "12345");
        x.seed(-3);
        x.rule(1, 0);
        x.rule(7, 1000);
        x.told(3840);
        // 2 of each row, 1 of the first; 4 of the last win 600, 32 * 2 win 4 each, 168 * 2 nothing.
        int[] want = {3, 1, 991 + 10, 2, 1, 5, -3, 1000 - 600 - 64 * 4};
        for (int what = 0; what < 8; what++) {
            s.is("count(" + what + ")", x.count(what), want[what]);
        }
        for (int z : new int[] {MIN, MAX, 0, (int) Due.BEYOND, (int) Due.FULL}) {
            x.seed(z);
            s.is("count(6)", x.count(6), z);
        }
        s.is("status(-1), none of them is a finding", x.status(-1), 0);
        s.of("Promise 41", "BEYOND: another what.");
        for (int what : new int[] {-1, 8, MIN, MAX}) {
            s.refused(Looks::settled, Due.BEYOND, "count", what);
        }
    }

    private void status() {
        s.of("Promise 42", "How many acts answered a finding ever (undo() takes none back): which -1: all, 0 to 6: BEYOND to SIZE.");
        SlipWeeks x = new SlipWeeks();
        for (int which = -1; which < 7; which++) {
            s.is("status(" + which + "), new", x.status(which), 0);
        }
        x.image();
        int[] want = {3, 2, 1, 4, 0, 2, 1};
        x.row(-1);
        x.house(0);
        x.write(9, 0, 0);
        for (int i = 0; i < 15; i++) {
            x.feed(0, 4);
        }
        x.feed(0, 1);
        x.feed(0, 4);
        x.people(0, 1);
        x.as(0, 7);
        x.felt(0);
        x.felt(1);
        x.rule(4, 0);
        x.rule(2, 0);
        x.rule(3, 0);
        x.line(0);
        x.line(1);
        x.read(0);
        x.weeks(0);
        x.sheet(0, 0, -1);
        x.liking();
        statuses(x, want, 13);
        x.undo();
        statuses(x, want, 13);
        x.tear();
        x.undo();
        want[3]++;
        statuses(x, want, 14);
        s.of("Promise 42", "BEYOND (counted from then on): another one.");
        x = new SlipWeeks();
        s.is("status(7)", x.status(7), Due.BEYOND);
        s.is("status(0)", x.status(0), 1);
        s.is("status(-2)", x.status(-2), Due.BEYOND);
        s.is("status(-1)", x.status(-1), 2);
        for (int which : new int[] {-2, 7, MIN, MAX}) {
            s.refused(Looks::settled, Due.BEYOND, "status", which);
        }
    }

    private void statuses(SlipWeeks x, int[] want, int all) {
        for (int which = 0; which < 7; which++) {
            s.is("status(" + which + ")", x.status(which), want[which]);
        }
        s.is("status(-1)", x.status(-1), all);
    }
}
