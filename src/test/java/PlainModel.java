import java.util.ArrayList;
import java.util.Arrays;
import java.util.Collections;
import java.util.List;
import java.util.Map;
import java.util.TreeMap;

/**
 * The document once more, in its plainest form and by other ways than the class: nothing is
 * kept that can be worked out, every row is asked about every draw, a text is judged by a
 * machine of states. Tests compare the class with it.
 */
final class PlainModel {
    static final int BEYOND = 0, FULL = 1, KIND = 2, NONE = 3, MISSING = 5, SIZE = 6;

    static final List<Integer> ALL = new ArrayList<>();

    static {
        for (int b = 0; b < 4096; b++) {
            if (Integer.bitCount(b) == 4) {
                ALL.add(b);
            }
        }
    }

    static final class Week {
        int draw, pot;
        int[] winners = new int[5];
        long[] got = new long[5];
    }

    static final class Core {
        List<int[]> people = new ArrayList<>();
        Map<Integer, Integer> bought = new TreeMap<>();
        String liking;
        int[] rule = {1, 50, 60, 30, 10, 0, 0, 0};
        int z = 1;
        List<Week> book = new ArrayList<>();

        Core twin() {
            Core c = new Core();
            for (int[] p : people) {
                c.people.add(p.clone());
            }
            c.bought.putAll(bought);
            c.liking = liking;
            c.rule = rule.clone();
            c.z = z;
            c.book.addAll(book);
            return c;
        }
    }

    Core core = new Core();
    Core kept;
    StringBuilder tape = new StringBuilder();
    long[][] sheets = new long[4][];
    int[] widths = new int[4];
    int[] findings = new int[7];

    int tell(int f) {
        findings[f]++;
        return -1000000001 - f;
    }

    static boolean in(long v, long a, long b) {
        return a <= v && v <= b;
    }

    static boolean isRow(long v) {
        return in(v, 0, 4095) && Long.bitCount(v) == 4;
    }

    static int rank(int a, int b) {
        return Integer.bitCount(a & b);
    }

    int latest() {
        return core.book.isEmpty() ? 0 : core.book.get(core.book.size() - 1).draw;
    }

    // ---- the text

    /** States: what may come next. W a factor; D1, D2 digits that may grow; A behind a factor. */
    static int fault(String t) {
        StringBuilder open = new StringBuilder();
        String next = "W";
        for (int i = 0; i < t.length(); i++) {
            char c = t.charAt(i);
            boolean digit = c >= '0' && c <= '9';
            if (next.equals("W")) {
                if (digit) {
                    next = "D1";
                } else if ("slgecdw".indexOf(c) >= 0) {
                    next = "A";
                } else if (c == '(' && open.length() < 4) {
                    open.append('(');
                } else {
                    return i;
                }
                continue;
            }
            if (digit && next.equals("D1")) {
                next = "D2";
                continue;
            }
            if (digit && next.equals("D2")) {
                next = "A";
                continue;
            }
            char top = open.length() == 0 ? ' ' : open.charAt(open.length() - 1);
            if (c == '+' || c == '-' || c == '*') {
                next = "W";
            } else if (c == '?' && top == '(') {
                open.setCharAt(open.length() - 1, '?');
                next = "W";
            } else if (c == ':' && top == '?') {
                open.setCharAt(open.length() - 1, ':');
                next = "W";
            } else if (c == ')' && (top == '(' || top == ':')) {
                open.setLength(open.length() - 1);
                next = "A";
            } else {
                return i;
            }
        }
        return next.equals("W") || open.length() > 0 ? t.length() : -1;
    }

    /** Value of a right text: split at its loosest sign. */
    int value(String t, int row) {
        int depth = 0;
        for (int i = t.length() - 1; i >= 0; i--) {
            char c = t.charAt(i);
            depth += c == ')' ? 1 : c == '(' ? -1 : 0;
            if (depth == 0 && (c == '+' || c == '-')) {
                int left = value(t.substring(0, i), row), right = value(t.substring(i + 1), row);
                return c == '+' ? left + right : left - right;
            }
        }
        for (int i = t.length() - 1; i >= 0; i--) {
            char c = t.charAt(i);
            depth += c == ')' ? 1 : c == '(' ? -1 : 0;
            if (depth == 0 && c == '*') {
                return value(t.substring(0, i), row) * value(t.substring(i + 1), row);
            }
        }
        if (t.charAt(0) == '(') {
            String inner = t.substring(1, t.length() - 1);
            int ask = -1, or = -1;
            for (int i = 0; i < inner.length(); i++) {
                char c = inner.charAt(i);
                depth += c == '(' ? 1 : c == ')' ? -1 : 0;
                if (depth == 0 && c == '?') {
                    ask = i;
                }
                if (depth == 0 && c == ':') {
                    or = i;
                }
            }
            if (ask < 0) {
                return value(inner, row);
            }
            return value(inner.substring(0, ask), row) > 0
                ? value(inner.substring(ask + 1, or), row) : value(inner.substring(or + 1), row);
        }
        return Character.isDigit(t.charAt(0)) ? Integer.parseInt(t) : name(t.charAt(0), numbers(row), row);
    }

    static List<Integer> numbers(int row) {
        List<Integer> list = new ArrayList<>();
        for (int n = 0; n < 12; n++) {
            if ((row & 1 << n) != 0) {
                list.add(n);
            }
        }
        return list;
    }

    int name(char c, List<Integer> n, int row) {
        switch (c) {
            case 's': return n.stream().mapToInt(v -> v).sum();
            case 'l': return Collections.min(n);
            case 'g': return Collections.max(n);
            case 'e': return (int) n.stream().filter(v -> v % 2 == 0).count();
            case 'd': return rank(row, latest());
            case 'w': return core.book.size();
            default:
                int most = 1;
                for (int v : n) {
                    int run = 1;
                    while (n.contains(v + run)) {
                        run++;
                    }
                    most = Math.max(most, run);
                }
                return most;
        }
    }

    // ---- likes, crosses

    int cross(int row) {
        return core.liking == null ? 1 : Math.max(0, Math.min(99, value(core.liking, row)));
    }

    int like(int[] p, int place) {
        int row = ALL.get(place);
        List<Integer> n = numbers(row);
        switch (p[0]) {
            case 0: return cross(row);
            case 1: return cross(row) + 2 * (int) n.stream().filter(v -> v < 6).count();
            case 2:
                int v = cross(row);
                int[] lines = new int[3], columns = new int[4];
                for (int k : n) {
                    lines[k / 4]++;
                    columns[k % 4]++;
                }
                for (int k : lines) {
                    v += k == 4 ? 20 : 0;
                }
                for (int k : columns) {
                    v += k == 3 ? 10 : 0;
                }
                return v;
            case 3: return 1;
            case 4: return cross(row) + 3 * rank(row, latest());
            case 5: return like(new int[] {1, p[1]}, place) * (n.contains(7) ? 2 : 1);
            case 6: return like(new int[] {3, p[1]}, place) + (int) n.stream().filter(k -> k >= 8).count();
            default: return place < p[1] ? like(new int[] {6, p[1]}, place) : 0;
        }
    }

    int[] crosses(int[] p) {
        int[] out = new int[495];
        long all = 0;
        for (int i = 0; i < 495; i++) {
            out[i] = like(p, i);
            all += out[i];
        }
        for (int i = 0; i < 495; i++) {
            out[i] = all == 0 ? 0 : (int) ((long) p[1] * out[i] / all);
        }
        return out;
    }

    int[] crosses() {
        int[] out = new int[495];
        for (int[] p : core.people) {
            int[] own = crosses(p);
            for (int i = 0; i < 495; i++) {
                out[i] += own[i];
            }
        }
        core.bought.forEach((place, times) -> out[place] += times);
        return out;
    }

    // ---- weeks and worth

    static long sum(int[] c) {
        long all = 0;
        for (int v : c) {
            all += v;
        }
        return all;
    }

    long now(long pot, int[] c) {
        return pot + sum(c) * core.rule[0] * core.rule[1] / 100;
    }

    static long winners(int[] c, int draw, int rank) {
        long all = 0;
        for (int i = 0; i < 495; i++) {
            all += rank(ALL.get(i), draw) == rank ? c[i] : 0;
        }
        return all;
    }

    long part(int rank, long pot) {
        return pot * core.rule[rank == 4 ? 2 : rank == 3 ? 3 : 4] / 100;
    }

    long net(long gets) {
        return gets > core.rule[6] ? gets - (gets - core.rule[6]) * core.rule[5] / 100 : gets;
    }

    void hold(int draw) {
        int[] c = crosses();
        Week w = new Week();
        w.draw = draw;
        long pot = now(core.rule[7], c), left = pot;
        for (int r = 2; r <= 4; r++) {
            w.winners[r] = (int) winners(c, draw, r);
            if (w.winners[r] > 0) {
                w.got[r] = part(r, pot) / w.winners[r];
                left -= w.got[r] * w.winners[r];
            }
        }
        core.rule[7] = (int) Math.max(0, Math.min(99999999, left));
        w.pot = core.rule[7];
        core.book.add(w);
    }

    /** Of one cross more of each row of a set, over all draws, together. */
    long gains(int[] crosses, List<Integer> places, long pot) {
        int[] more = crosses.clone();
        for (int p : places) {
            more[p]++;
        }
        long all = 0;
        for (int draw : ALL) {
            for (int r = 2; r <= 4; r++) {
                long own = 0;
                for (int p : places) {
                    own += rank(ALL.get(p), draw) == r ? 1 : 0;
                }
                if (own > 0) {
                    all += own * net(part(r, pot) / winners(more, draw, r));
                }
            }
        }
        return all;
    }

    long worth(int place, long pot) {
        int[] c = crosses();
        return gains(c, List.of(place), now(pot, c)) / 495;
    }

    int best(boolean itsWorth) {
        int[] c = crosses();
        long pot = now(core.rule[7], c);
        long[][] w = new long[495][5];
        for (int d = 0; d < 495; d++) {
            for (int r = 2; r <= 4; r++) {
                w[d][r] = winners(c, ALL.get(d), r);
            }
        }
        int best = -1;
        long most = -1;
        for (int p = 0; p < 495; p++) {
            long all = 0;
            for (int d = 0; d < 495; d++) {
                int r = rank(ALL.get(p), ALL.get(d));
                all += r < 2 ? 0 : net(part(r, pot) / (w[d][r] + 1));
            }
            if (all / 495 > most) {
                most = all / 495;
                best = p;
            }
        }
        return itsWorth ? (int) most : best;
    }

    List<Integer> leastCrossed(int[] c, int n) {
        List<Integer> order = new ArrayList<>();
        for (int i = 0; i < 495; i++) {
            order.add(i);
        }
        order.sort((a, b) -> c[a] != c[b] ? Integer.compare(c[a], c[b]) : Integer.compare(a, b));
        return order.subList(0, n);
    }

    int line(int place) {
        int low = 0, high = 99999999;
        if (worth(place, high) < core.rule[0]) {
            return -1;
        }
        while (low < high) {
            int mid = low + (high - low) / 2;
            if (worth(place, mid) < core.rule[0]) {
                low = mid + 1;
            } else {
                high = mid;
            }
        }
        return low;
    }

    int seek(int m, int what) {
        int[] c = crosses();
        List<Integer> took = new ArrayList<>();
        for (int i = 0; i < m; i++) {
            int p = leastCrossed(c, 1).get(0);
            c[p]++;
            if (!took.contains(p)) {
                took.add(p);
            }
        }
        return what == 0 ? Arrays.stream(c).min().getAsInt() : took.size();
    }

    int times(int number) {
        return (int) core.book.stream().filter(w -> (w.draw >> number & 1) == 1).count();
    }

    // ---- the calls, by name

    long call(String name, long... a) {
        int p = a.length > 0 ? (int) a[0] : 0, q = a.length > 1 ? (int) a[1] : 0;
        switch (name) {
            case "place": return isRow(p) ? ALL.indexOf(p) : tell(BEYOND);
            case "row": return in(p, 0, 494) ? ALL.get(p) : tell(BEYOND);
            case "people": case "of": case "many": case "as": case "likes": case "crossed":
                return peopleCall(name, p, q);
            case "buys":
                if (!in(p, 0, 494) || !in(q, 1, 9999)) {
                    return tell(BEYOND);
                }
                int had = core.bought.getOrDefault(p, 0);
                if (had == 0 && core.bought.size() == 40 || had + q > 99999) {
                    return tell(FULL);
                }
                core.bought.put(p, had + q);
                return had + q;
            case "returned":
                int all = core.bought.values().stream().mapToInt(v -> v).sum();
                core.bought.clear();
                return all;
            case "feed": case "wipe": case "liking": case "even":
                return likingCall(name, p, q);
            case "rule": case "seed": case "week": case "told": case "book":
                return weekCall(name, p, q);
            case "now": case "worth": case "best": case "alone": case "line": case "house": case "seek": case "shares":
                return worthCall(name, p, q);
            case "due": case "came": case "drum": case "felt":
                return drumCall(name, p);
            case "sheet": case "write": case "copy": case "weeks": case "read":
                return sheetCall(name, a);
            default:
                return imageCall(name, p);
        }
    }

    long peopleCall(String name, int p, int q) {
        boolean known = in(p, 0, core.people.size() - 1);
        switch (name) {
            case "people":
                if (!in(p, 0, 7) || !in(q, 0, 99999)) {
                    return tell(BEYOND);
                }
                if (core.people.size() == 12) {
                    return tell(FULL);
                }
                core.people.add(new int[] {p, q});
                return core.people.size() - 1;
            case "of":
                return known && in(q, 0, 1) ? core.people.get(p)[q] : tell(BEYOND);
            case "many":
                if (!known || !in(q, 0, 99999)) {
                    return tell(BEYOND);
                }
                int was = core.people.get(p)[1];
                core.people.get(p)[1] = q;
                return was;
            case "as":
                if (!known || !in(q, 0, 7)) {
                    return tell(BEYOND);
                }
                String[] lines = {"0", "01", "02", "03", "04", "015", "036", "0367"};
                return lines[core.people.get(p)[0]].indexOf('0' + q) >= 0 ? core.people.get(p)[1] : tell(KIND);
            case "likes":
                return known && in(q, 0, 494) ? like(core.people.get(p), q) : tell(BEYOND);
            default:
                if (!known && p != -1 || !in(q, 0, 494)) {
                    return tell(BEYOND);
                }
                return p == -1 ? crosses()[q] : crosses(core.people.get(p))[q];
        }
    }

    long likingCall(String name, int p, int q) {
        switch (name) {
            case "feed":
                if (!in(q, 1, 4)) {
                    return tell(BEYOND);
                }
                if (tape.length() + q > 60) {
                    return tell(FULL);
                }
                for (int i = 4 - q; i < 4; i++) {
                    tape.append((char) (p >>> 24 - 8 * i & 255));
                }
                return tape.length();
            case "wipe":
                int had = tape.length();
                tape.setLength(0);
                return had;
            case "liking":
                int f = fault(tape.toString());
                if (f < 0) {
                    core.liking = tape.toString();
                    tape.setLength(0);
                    return 0;
                }
                return -1 - f;
            default:
                int was = core.liking == null ? 0 : 1;
                core.liking = null;
                return was;
        }
    }

    long weekCall(String name, int p, int q) {
        switch (name) {
            case "rule":
                int[] most = {99, 100, 100, 100, 100, 100, 999999, 99999999};
                if (!in(p, 0, 7) || !in(q, p == 0 ? 1 : 0, most[p])) {
                    return tell(BEYOND);
                }
                int was = core.rule[p];
                core.rule[p] = q;
                return was;
            case "seed":
                int z = core.z;
                core.z = p;
                return z;
            case "week":
                if (core.book.size() == 40) {
                    return tell(FULL);
                }
                int draw = 0;
                while (Integer.bitCount(draw) < 4) {
                    core.z = (int) (core.z * 1103515245L + 12345L);
                    draw |= 1 << (int) ((core.z & 0xffffffffL) / 65536 % 12);
                }
                hold(draw);
                return draw;
            case "told":
                if (!isRow(p)) {
                    return tell(BEYOND);
                }
                if (core.book.size() == 40) {
                    return tell(FULL);
                }
                hold(p);
                return core.book.get(core.book.size() - 1).winners[4];
            default:
                if (!in(p, 0, core.book.size() - 1) || !in(q, 0, 7)) {
                    return tell(BEYOND);
                }
                Week w = core.book.get(p);
                long[] cells = {w.draw, w.winners[4], w.winners[3], w.winners[2], w.got[4], w.got[3], w.got[2], w.pot};
                return cells[q];
        }
    }

    long worthCall(String name, int p, int q) {
        int[] c = crosses();
        switch (name) {
            case "now": return now(core.rule[7], c);
            case "worth": return in(p, 0, 494) ? worth(p, core.rule[7]) : tell(BEYOND);
            case "best": return in(p, 0, 1) ? best(p == 1) : tell(BEYOND);
            case "alone":
                List<Integer> alone = new ArrayList<>();
                for (int i = 0; i < 495; i++) {
                    if (c[i] == 0) {
                        alone.add(i);
                    }
                }
                if (p == 0) {
                    return alone.size();
                }
                return p != 1 ? tell(BEYOND) : alone.isEmpty() ? tell(NONE) : alone.get(0);
            case "line":
                if (!in(p, 0, 494)) {
                    return tell(BEYOND);
                }
                int line = line(p);
                return line < 0 ? tell(NONE) : line;
            case "house":
                if (!in(p, 1, 495)) {
                    return tell(BEYOND);
                }
                return gains(c, leastCrossed(c, p), now(core.rule[7], c)) / 495 - (long) p * core.rule[0];
            case "seek":
                return in(p, 1, 200) && in(q, 0, 1) ? seek(p, q) : tell(BEYOND);
            default:
                return in(p, 0, 494) ? c[p] : tell(BEYOND);
        }
    }

    long drumCall(String name, int p) {
        if (name.equals("drum")) {
            long all = 0;
            for (int n = 0; n < 12; n++) {
                long off = 12L * times(n) - 4L * core.book.size();
                all += off * off;
            }
            return all;
        }
        if (!in(p, 0, 11)) {
            return tell(BEYOND);
        }
        if (name.equals("came")) {
            return times(p);
        }
        int size = core.book.size();
        if (name.equals("due")) {
            int since = 0;
            while (since < size && (core.book.get(size - 1 - since).draw >> p & 1) == 0) {
                since++;
            }
            return since;
        }
        if (times(p) == 0 || times(p) == size) {
            return tell(NONE);
        }
        long with = 0, without = 0;
        for (Week w : core.book) {
            if ((w.draw >> p & 1) == 1) {
                with += w.winners[2];
            } else {
                without += w.winners[2];
            }
        }
        return with / times(p) - without / (size - times(p));
    }

    long sheetCall(String name, long[] a) {
        int s = (int) a[0];
        boolean known = in(s, 0, 3);
        if (name.equals("sheet")) {
            if (!known || a[1] != 0 && a[1] != 8 && a[1] != 16 && a[1] != 64) {
                return tell(BEYOND);
            }
            if (a[2] < 0) {
                return tell(SIZE);
            }
            if (a[2] > 40) {
                return tell(BEYOND);
            }
            widths[s] = (int) a[1];
            sheets[s] = a[1] == 0 ? null : new long[(int) a[2]];
            return a[1] == 0 ? 0 : a[2];
        }
        if (!known || name.equals("copy") && !in(a[2], 0, 3)) {
            return tell(BEYOND);
        }
        if (sheets[s] == null || name.equals("copy") && sheets[(int) a[2]] == null) {
            return tell(MISSING);
        }
        switch (name) {
            case "write":
                if (!in(a[1], 0, sheets[s].length - 1)) {
                    return tell(BEYOND);
                }
                long was = sheets[s][(int) a[1]];
                sheets[s][(int) a[1]] = a[2] << 64 - widths[s] >> 64 - widths[s];
                return was;
            case "copy":
                int t = (int) a[2];
                if (widths[s] != widths[t]) {
                    return tell(KIND);
                }
                if (a[1] < 0 || a[3] < 0 || a[4] < 0 || a[1] + a[4] > sheets[s].length || a[3] + a[4] > sheets[t].length) {
                    return tell(BEYOND);
                }
                long[] were = sheets[s].clone();
                for (int i = 0; i < a[4]; i++) {
                    sheets[t][(int) a[3] + i] = were[(int) a[1] + i];
                }
                return a[4];
            case "weeks":
                int came = 0;
                for (long v : sheets[s]) {
                    if (isRow(v) && core.book.size() < 40) {
                        hold((int) v);
                        came++;
                    }
                }
                return came;
            default:
                for (int i = 0; i < sheets[s].length; i++) {
                    if (i >= core.book.size() || core.book.get(i).winners[2] != sheets[s][i]) {
                        return 1 + i;
                    }
                }
                return 0;
        }
    }

    long imageCall(String name, int p) {
        switch (name) {
            case "image":
                kept = core.twin();
                return 1;
            case "undo":
                if (kept == null) {
                    return tell(NONE);
                }
                core = kept.twin();
                return core.book.size();
            case "tear":
                int was = kept == null ? 0 : 1;
                kept = null;
                return was;
            case "count":
                long[] all = {core.people.size(), core.book.size(), sum(crosses()), core.bought.size(),
                    core.liking == null ? 0 : 1, tape.length(), core.z, core.rule[7]};
                return in(p, 0, 7) ? all[p] : tell(BEYOND);
            case "status":
                if (!in(p, -1, 6)) {
                    return tell(BEYOND);
                }
                return p == -1 ? Arrays.stream(findings).sum() : findings[p];
            default:
                throw new IllegalArgumentException(name);
        }
    }
}
