/** The calls of the face by name, on the program and on the model; a has five numbers at least. */
final class CallTable {
    static final String[] NAMES = {
        "people", "hand", "ofPerson", "bind", "undo", "ofKnot", "change", "become", "as", "feed", "text", "law",
        "years", "loose", "year", "then", "can", "last", "open", "pair", "miss", "keep", "whose", "holds", "alike",
        "waitFor", "odds", "fits", "seed", "voice", "trace", "sheet", "put", "move", "loads", "judge", "image",
        "restore", "tell", "check", "count", "told"};

    private CallTable() {
    }

    static String told(String name, long[] a) {
        StringBuilder s = new StringBuilder(name);
        for (long v : a) {
            s.append(' ').append(v);
        }
        return s.toString();
    }

    static int onProgram(CrossedKnots x, String name, long[] a) {
        switch (name) {
            case "people": return x.people((int) a[0]);
            case "hand": return x.hand((int) a[0], (int) a[1], (int) a[2]);
            case "ofPerson": return x.ofPerson((int) a[0], (int) a[1]);
            case "bind": return x.bind((int) a[0], (int) a[1], (int) a[2]);
            case "undo": return x.undo((int) a[0], (int) a[1]);
            case "ofKnot": return x.ofKnot((int) a[0], (int) a[1]);
            case "change": return x.change((int) a[0], (int) a[1], (int) a[2]);
            case "become": return x.become((int) a[0], (int) a[1]);
            case "as": return x.as((int) a[0], (int) a[1]);
            case "feed": return x.feed(a[0], (int) a[1]);
            case "text": return x.text((int) a[0]);
            case "law": return x.law((int) a[0], (int) a[1], (int) a[2], (int) a[3]);
            case "years": return x.years((int) a[0]);
            case "loose": return x.loose((int) a[0]);
            case "year": return x.year((int) a[0]);
            case "then": return x.then((int) a[0], (int) a[1], (int) a[2]);
            case "can": return x.can((int) a[0], (int) a[1], (int) a[2]);
            case "last": return x.last((int) a[0]);
            case "open": return x.open((int) a[0]);
            case "pair": return x.pair((int) a[0], (int) a[1]);
            case "miss": return x.miss((int) a[0], (int) a[1]);
            case "keep": return x.keep();
            case "whose": return x.whose((int) a[0], (int) a[1]);
            case "holds": return x.holds((int) a[0]);
            case "alike": return x.alike();
            case "waitFor": return x.waitFor((int) a[0]);
            case "odds": return x.odds((int) a[0], (int) a[1]);
            case "fits": return x.fits((int) a[0]);
            case "seed": return x.seed((int) a[0]);
            case "voice": return x.voice((int) a[0], (int) a[1], (int) a[2]);
            case "trace": return x.trace((int) a[0]);
            case "sheet": return x.sheet((int) a[0], (int) a[1], (int) a[2]);
            case "put": return x.put((int) a[0], (int) a[1], (int) a[2]);
            case "move": return x.move((int) a[0], (int) a[1], (int) a[2], (int) a[3], (int) a[4]);
            case "loads": return x.loads((int) a[0]);
            case "judge": return x.judge((int) a[0]);
            case "image": return x.image();
            case "restore": return x.restore();
            case "tell": return x.tell((int) a[0]);
            case "check": return x.check();
            case "count": return x.count((int) a[0]);
            case "told": return x.told((int) a[0]);
            default: throw new IllegalArgumentException(name);
        }
    }

    static int onModel(Model y, String name, long[] a) {
        switch (name) {
            case "people": return y.people((int) a[0]);
            case "hand": return y.hand((int) a[0], (int) a[1], (int) a[2]);
            case "ofPerson": return y.ofPerson((int) a[0], (int) a[1]);
            case "bind": return y.bind((int) a[0], (int) a[1], (int) a[2]);
            case "undo": return y.undo((int) a[0], (int) a[1]);
            case "ofKnot": return y.ofKnot((int) a[0], (int) a[1]);
            case "change": return y.change((int) a[0], (int) a[1], (int) a[2]);
            case "become": return y.become((int) a[0], (int) a[1]);
            case "as": return y.as((int) a[0], (int) a[1]);
            case "feed": return y.feed(a[0], (int) a[1]);
            case "text": return y.text((int) a[0]);
            case "law": return y.law((int) a[0], (int) a[1], (int) a[2], (int) a[3]);
            case "years": return y.years((int) a[0]);
            case "loose": return y.loose((int) a[0]);
            case "year": return y.year((int) a[0]);
            case "then": return y.then((int) a[0], (int) a[1], (int) a[2]);
            case "can": return y.can((int) a[0], (int) a[1], (int) a[2]);
            case "last": return y.last((int) a[0]);
            case "open": return y.open((int) a[0]);
            case "pair": return y.pair((int) a[0], (int) a[1]);
            case "miss": return y.miss((int) a[0], (int) a[1]);
            case "keep": return y.keep();
            case "whose": return y.whose((int) a[0], (int) a[1]);
            case "holds": return y.holds((int) a[0]);
            case "alike": return y.alike();
            case "waitFor": return y.waitFor((int) a[0]);
            case "odds": return y.odds((int) a[0], (int) a[1]);
            case "fits": return y.fits((int) a[0]);
            case "seed": return y.seed((int) a[0]);
            case "voice": return y.voice((int) a[0], (int) a[1], (int) a[2]);
            case "trace": return y.trace((int) a[0]);
            case "sheet": return y.sheet((int) a[0], (int) a[1], (int) a[2]);
            case "put": return y.put((int) a[0], (int) a[1], (int) a[2]);
            case "move": return y.move((int) a[0], (int) a[1], (int) a[2], (int) a[3], (int) a[4]);
            case "loads": return y.loads((int) a[0]);
            case "judge": return y.judge((int) a[0]);
            case "image": return y.image();
            case "restore": return y.restore();
            case "tell": return y.tell((int) a[0]);
            case "check": return y.check();
            case "count": return y.count((int) a[0]);
            case "told": return y.told((int) a[0]);
            default: throw new IllegalArgumentException(name);
        }
    }
}
