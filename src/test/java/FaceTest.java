/** Promise 1: a new object. */
public final class FaceTest {
    public static void main(String[] args) {
        Due due = new Due();
        SlipWeeks x = new SlipWeeks();
        int[] fresh = {0, 0, 0, 0, 0, 0, 1, 0};
        for (int what = 0; what < fresh.length; what++) {
            due.is("count(" + what + ")", x.count(what), fresh[what]);
        }
        due.is("wipe()", x.wipe(), 0);
        due.is("even()", x.even(), 0);
        due.is("tear()", x.tear(), 0);
        due.is("status(-1)", x.status(-1), 0);
        due.is("undo()", x.undo(), Due.NONE);
        for (int s = 0; s < 4; s++) {
            due.is("write(" + s + ", 0, 1)", x.write(s, 0, 1), Due.MISSING);
        }
        due.is("book(0, 0)", x.book(0, 0), Due.BEYOND);
        due.is("of(0, 0)", x.of(0, 0), Due.BEYOND);
        int[] first = {1, 50, 60, 30, 10, 0, 0, 0};
        for (int what = 0; what < first.length; what++) {
            due.is("rule(" + what + ", 1)", x.rule(what, 1), first[what]);
        }
        due.end();
    }
}
