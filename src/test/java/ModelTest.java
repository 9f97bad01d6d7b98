import java.util.Random;

/** Random runs of all calls (fixed seeds), the class against the plain model, answer by answer. */
public final class ModelTest {
    private static final int RUNS = 120;
    private static final int CALLS = 512;
    private static final int[] EDGES = {0, 1, -1, 2, 7, 8, 11, 12, 39, 40, 41, 60, 99, 100, 101, 494, 495, 496,
        9999, 10000, 99999, 100000, 999999, 1000000, 99999999, 100000000,
        Integer.MAX_VALUE, Integer.MIN_VALUE, Integer.MAX_VALUE - 1, Integer.MIN_VALUE + 1, -1000000001};
    private static final String[] CHANGES = {"people", "many", "buys", "returned", "text", "liking", "even", "rule", "seed",
        "week", "told", "sheet", "write", "write", "write", "copy", "weeks", "image", "undo", "tear", "feed", "wipe"};
    private static final String[] QUESTIONS = {"place", "row", "of", "as", "likes", "crossed", "crossed", "book", "book",
        "now", "worth", "best", "alone", "house", "seek", "shares", "due", "came", "drum", "felt", "read", "count", "count", "status"};

    private final Random r;
    private final SlipWeeks x = new SlipWeeks();
    private final PlainModel model = new PlainModel();
    private final Due due;
    private final String run;
    private int calls;

    private ModelTest(int seed, Due due) {
        r = new Random(seed);
        this.due = due;
        run = "run " + seed + ": ";
    }

    public static void main(String[] args) {
        Due due = new Due();
        int first = args.length > 0 ? Integer.parseInt(args[0]) : 0;
        int runs = args.length > 1 ? Integer.parseInt(args[1]) : RUNS;
        for (int seed = first; seed < first + runs; seed++) {
            new ModelTest(seed, due).go();
        }
        due.end();
    }

    private void go() {
        for (int i = 0; i < 3; i++) {
            both("people", r.nextInt(8), pick(100, 3000, 99999));
        }
        for (int i = 0; i < CALLS; i++) {
            one(i);
        }
    }

    private void one(int i) {
        if (i % 67 == 30) {
            both("line", wild(495));
            return;
        }
        String name = r.nextInt(3) == 0 ? CHANGES[r.nextInt(CHANGES.length)] : QUESTIONS[r.nextInt(QUESTIONS.length)];
        // What asks all rows of the model by all draws is dear there.
        if ((name.equals("house") || name.equals("worth") || name.equals("best")) && r.nextInt(4) != 0) {
            return;
        }
        switch (name) {
            case "text": text(); break;
            case "people": both(name, wild(8), wild(pick(50, 5000, 100000))); break;
            case "of": both(name, wild(12), wild(2)); break;
            case "many": both(name, wild(8), wild(pick(50, 5000, 100000))); break;
            case "as": both(name, wild(12), wild(8)); break;
            case "likes": both(name, wild(8), wild(495)); break;
            case "crossed": both(name, wild(8) - (r.nextInt(3) == 0 ? 1 : 0), wild(495)); break;
            case "buys": both(name, wild(pick(5, 60, 495)), wild(pick(20, 10000, 10001))); break;
            case "rule": rule(); break;
            case "book": both(name, wild(12), wild(8)); break;
            case "told": case "place": both(name, r.nextInt(4) == 0 ? wild(4096) : PlainModel.ALL.get(r.nextInt(495))); break;
            case "seek": both(name, wild(pick(5, 200, 201)), wild(2)); break;
            case "house": both(name, wild(pick(5, 30, 497))); break;
            case "sheet": both(name, wild(4), new int[] {0, 8, 16, 16, 64, 64, 32}[r.nextInt(7)], wild(pick(5, 12, 43))); break;
            case "write": write(); break;
            case "copy": both(name, wild(4), wild(8), wild(4), wild(8), wild(8)); break;
            case "feed": both(name, r.nextInt(), wild(5)); break;
            case "seed": both(name, r.nextInt()); break;
            case "best": case "alone": both(name, wild(2)); break;
            case "due": case "came": case "felt": both(name, wild(12)); break;
            case "weeks": case "read": both(name, wild(4)); break;
            case "count": both(name, wild(8)); break;
            case "status": both(name, wild(8) - 1); break;
            case "row": case "worth": case "shares": both(name, wild(495)); break;
            default: both(name);
        }
    }

    private void rule() {
        int what = wild(8);
        int most = what == 7 ? pick(2000, 1000000, 100000000) : what == 6 ? pick(50, 5000, 1000000) : 101;
        both("rule", what, wild(most));
    }

    private void write() {
        long v = r.nextInt(3) == 0 ? r.nextLong() : PlainModel.ALL.get(r.nextInt(r.nextBoolean() ? 30 : 495));
        if (r.nextInt(3) == 0 && !model.core.book.isEmpty()) {
            v = model.core.book.get(r.nextInt(model.core.book.size())).winners[2];
        }
        both("write", wild(4), wild(12), v);
    }

    private void text() {
        both("wipe");
        String t = sum(0);
        if (r.nextInt(3) == 0 && !t.isEmpty()) {
            int at = r.nextInt(t.length());
            String other = "s9(?:)+-*0 x" + (char) 200;
            t = t.substring(0, at) + other.charAt(r.nextInt(other.length())) + t.substring(at + r.nextInt(2));
        }
        for (int i = 0; i < t.length() && i < 60; i++) {
            both("feed", t.charAt(i), 1);
        }
        both("liking");
    }

    private String sum(int depth) {
        StringBuilder b = new StringBuilder(product(depth));
        while (r.nextInt(3) == 0) {
            b.append(r.nextBoolean() ? '+' : '-').append(product(depth));
        }
        return b.toString();
    }

    private String product(int depth) {
        StringBuilder b = new StringBuilder(factor(depth));
        while (r.nextInt(4) == 0) {
            b.append('*').append(factor(depth));
        }
        return b.toString();
    }

    private String factor(int depth) {
        int kind = r.nextInt(depth > 4 ? 2 : 4);
        switch (kind) {
            case 0: return Integer.toString(r.nextInt(pick(10, 100, 1000)));
            case 1: return "" + "slgecdw".charAt(r.nextInt(7));
            case 2: return "(" + sum(depth + 1) + ")";
            default: return "(" + sum(depth + 1) + "?" + sum(depth + 1) + ":" + sum(depth + 1) + ")";
        }
    }

    private int pick(int a, int b, int c) {
        int k = r.nextInt(3);
        return k == 0 ? a : k == 1 ? b : c;
    }

    /** Mostly below a bound, at times on an edge. */
    private int wild(int bound) {
        return r.nextInt(25) == 0 ? EDGES[r.nextInt(EDGES.length)] : r.nextInt(bound);
    }

    private void both(String name, long... a) {
        if (calls >= CALLS) {
            return;
        }
        calls++;
        StringBuilder call = new StringBuilder(run).append(name).append('(');
        for (int i = 0; i < a.length; i++) {
            call.append(i > 0 ? ", " : "").append(a[i]);
        }
        due.is(call.append(')').toString(), Calls.on(x, name, a), model.call(name, a));
    }
}
