/** The calls of the face by their names. */
final class Calls {
    static long on(SlipWeeks x, String name, long... a) {
        int p = a.length > 0 ? (int) a[0] : 0;
        int q = a.length > 1 ? (int) a[1] : 0;
        switch (name) {
            case "place": return x.place(p);
            case "row": return x.row(p);
            case "people": return x.people(p, q);
            case "of": return x.of(p, q);
            case "many": return x.many(p, q);
            case "as": return x.as(p, q);
            case "likes": return x.likes(p, q);
            case "crossed": return x.crossed(p, q);
            case "buys": return x.buys(p, q);
            case "returned": return x.returned();
            case "feed": return x.feed(p, q);
            case "wipe": return x.wipe();
            case "liking": return x.liking();
            case "even": return x.even();
            case "rule": return x.rule(p, q);
            case "seed": return x.seed(p);
            case "week": return x.week();
            case "told": return x.told(p);
            case "book": return x.book(p, q);
            case "now": return x.now();
            case "worth": return x.worth(p);
            case "best": return x.best(p);
            case "alone": return x.alone(p);
            case "line": return x.line(p);
            case "house": return x.house(p);
            case "seek": return x.seek(p, q);
            case "shares": return x.shares(p);
            case "due": return x.due(p);
            case "came": return x.came(p);
            case "drum": return x.drum();
            case "felt": return x.felt(p);
            case "sheet": return x.sheet(p, q, (int) a[2]);
            case "write": return x.write(p, q, a[2]);
            case "copy": return x.copy(p, q, (int) a[2], (int) a[3], (int) a[4]);
            case "weeks": return x.weeks(p);
            case "read": return x.read(p);
            case "image": return x.image();
            case "undo": return x.undo();
            case "tear": return x.tear();
            case "count": return x.count(p);
            case "status": return x.status(p);
            default: throw new IllegalArgumentException(name);
        }
    }
}
