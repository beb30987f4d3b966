import java.util.ArrayList;
import java.util.List;
import java.util.TreeSet;

/** The document read a second time, word by word, slow and without care for room. */
final class Model {
    static final int LOW = -1000000000;

    static final class Person {
        int left = 10;
        int right = 20;
        boolean there = true;
    }

    static final class Knot {
        int kind;
        int m;
        int one;
        int other;
        int crossing;
        int year;
        int under;
        boolean tied = true;
        int load = 0;
    }

    List<Person> people = new ArrayList<>();
    List<Knot> knots = new ArrayList<>();
    int year = 0;
    int z = 1;
    String tape = "";
    String[] laws = new String[2];
    List<Integer> waiting = new ArrayList<>();

    int[] told = new int[6];
    List<Integer> trace = new ArrayList<>();
    long[][] sheets = new long[4][];
    int[] bits = new int[4];
    Model image = null;
    int images = 0;

    private static final ModelText[] TEXTS = {new ModelText("vky"), new ModelText("dml")};

    Model() {
        settle(4);
    }

    private void settle(int n) {
        people.clear();
        for (int i = 0; i < n; i++) {
            people.add(new Person());
        }
    }

    /** What an image has. */
    private Model copy() {
        Model to = new Model();
        to.people.clear();
        for (Person p : people) {
            Person q = new Person();
            q.left = p.left;
            q.right = p.right;
            q.there = p.there;
            to.people.add(q);
        }
        for (Knot k : knots) {
            Knot c = new Knot();
            c.kind = k.kind;
            c.m = k.m;
            c.one = k.one;
            c.other = k.other;
            c.crossing = k.crossing;
            c.year = k.year;
            c.under = k.under;
            c.tied = k.tied;
            c.load = k.load;
            to.knots.add(c);
        }
        to.year = year;
        to.z = z;
        to.tape = tape;
        to.laws = laws.clone();
        to.waiting = new ArrayList<>(waiting);
        return to;
    }

    private int error(int k) {
        told[k]++;
        return LOW - k;
    }

    private boolean noPerson(int person) {
        return person < 0 || person >= people.size();
    }

    private boolean noKnot(int knot) {
        return knot < 0 || knot >= knots.size();
    }

    private boolean noPair(int pair) {
        if (pair < 0 || pair > 99) {
            return true;
        }
        return noPerson(pair / 10) || noPerson(pair % 10) || pair % 11 == 0;
    }

    private static boolean out(int v, int from, int to) {
        return v < from || v > to;
    }

    private boolean there(int person) {
        return people.get(person).there;
    }

    // What the laws give.

    private int gives(int use, int a, int b, int c) {
        long v = laws[use] != null ? TEXTS[use].worth(laws[use], new int[] {a, b, c}) : use == 0 ? (int) (a + 1L) : 0;
        long top = use == 0 ? 99 : 1;
        return (int) (v < 0 ? 0 : v > top ? top : v);
    }

    private void passYear() {
        for (Person p : people) {
            if (p.there) {
                p.left = gives(0, p.left, 0, year % 10);
                p.right = gives(0, p.right, 1, year % 10);
            }
        }
        year++;
    }

    private Model behind(int n) {
        Model m = copy();
        for (int i = 0; i < n; i++) {
            m.passYear();
        }
        return m;
    }

    int togetherBehind(int n) {
        return behind(n).together();
    }

    private int together() {
        return people.stream().mapToInt(p -> p.left + p.right).sum();
    }

    private int ease(Knot k, int kind) {
        switch (kind) {
            case 0: return 5;
            case 1: return ease(k, 0) + k.m;
            case 2: return 2 * ease(k, 0);
            case 3: return ease(k, 0) - k.m % 5;
            case 4: return ease(k, 1) - k.load / 10;
            case 5: return ease(k, 2) + (year - k.year);
            default: return k.load > 50 ? 0 : ease(k, 3);
        }
    }

    private int ease(Knot k) {
        return Math.max(0, ease(k, k.kind));
    }

    private int misses(Knot k, int one, int other) {
        int pull = people.get(one).right + people.get(other).left;
        return pull > k.crossing ? pull - k.crossing : k.crossing - pull;
    }

    private boolean isCan(Knot k, int one, int other) {
        boolean bothThere = there(one) && there(other);
        boolean free = k.under == -1 || !knots.get(k.under).tied;
        boolean near = misses(k, one, other) <= ease(k);
        boolean binders = k.one == one && k.other == other || k.one == other && k.other == one;
        return bothThere && k.tied && free && near && (binders || gives(1, misses(k, one, other), k.m, k.load) != 0);
    }

    private Model freed(int knot) {
        Model m = copy();
        m.knots.get(knot).under = -1;
        return m;
    }

    /** All that can, as told: 10 times ONE, and OTHER. */
    private List<Integer> whoCan(int knot) {
        List<Integer> all = new ArrayList<>();
        for (int pair = 0; pair < 100; pair++) {
            if (!noPair(pair) && isCan(knots.get(knot), pair / 10, pair % 10)) {
                all.add(pair);
            }
        }
        return all;
    }

    private boolean own(int knot, int n) {
        Model m = freed(knot).behind(n);
        Knot k = m.knots.get(knot);
        return m.isCan(k, k.one, k.other) || m.isCan(k, k.other, k.one);
    }

    private TreeSet<Integer> opened() {
        Model m = copy();
        TreeSet<Integer> all = new TreeSet<>();
        boolean more = true;
        while (more) {
            more = false;
            for (int knot = 0; knot < m.knots.size() && !more; knot++) {
                if (!m.whoCan(knot).isEmpty()) {
                    m.knots.get(knot).tied = false;
                    all.add(knot);
                    more = true;
                }
            }
        }
        return all;
    }

    private static int set(Iterable<Integer> of) {
        int set = 0;
        for (int i : of) {
            set += 1 << i;
        }
        return set;
    }

    // The face.

    int people(int n) {
        if (out(n, 2, 6)) {
            return error(1);
        }
        if (!knots.isEmpty()) {
            return error(3);
        }
        int was = people.size();
        settle(n);
        return was;
    }

    int hand(int person, int what, int v) {
        if (noPerson(person) || out(what, 0, 2) || out(v, 0, what == 2 ? 1 : 99)) {
            return error(1);
        }
        int was = ofPerson(person, what);
        Person p = people.get(person);
        if (what == 0) {
            p.left = v;
        } else if (what == 1) {
            p.right = v;
        } else {
            p.there = v != 0;
        }
        return was;
    }

    int ofPerson(int person, int what) {
        if (noPerson(person) || out(what, 0, 2)) {
            return error(1);
        }
        Person p = people.get(person);
        return what == 0 ? p.left : what == 1 ? p.right : p.there ? 1 : 0;
    }

    int bind(int km, int pair, int under) {
        if (out(km, 0, 69) || noPair(pair) || (under != -1 && noKnot(under))) {
            return error(1);
        }
        if (knots.size() == 8) {
            return error(4);
        }
        if (!there(pair / 10) || !there(pair % 10)) {
            return error(3);
        }
        Knot k = new Knot();
        k.kind = km / 10;
        k.m = km % 10;
        k.one = pair / 10;
        k.other = pair % 10;
        k.crossing = people.get(k.one).left + people.get(k.other).right;
        k.year = year;
        k.under = under;
        knots.add(k);
        return knots.size() - 1;
    }

    int undo(int knot, int pair) {
        if (noKnot(knot) || noPair(pair)) {
            return error(1);
        }
        if (!isCan(knots.get(knot), pair / 10, pair % 10)) {
            return error(3);
        }
        knots.get(knot).tied = false;
        return (int) knots.stream().filter(k -> k.tied).count();
    }

    int ofKnot(int knot, int what) {
        if (noKnot(knot) || out(what, 0, 9)) {
            return error(1);
        }
        Knot k = knots.get(knot);
        int[] all = {k.kind, k.m, k.one, k.other, k.crossing, k.year, k.under, k.tied ? 1 : 0, k.load, ease(k)};
        return all[what];
    }

    int change(int knot, int what, int v) {
        if (noKnot(knot) || out(what, 0, 3) || out(v, 0, new int[] {198, 999, 1, 99}[what])) {
            return error(1);
        }
        Knot k = knots.get(knot);
        int was = new int[] {k.crossing, k.year, k.tied ? 1 : 0, k.load}[what];
        if (what == 0) {
            k.crossing = v;
        } else if (what == 1) {
            k.year = v;
        } else if (what == 2) {
            k.tied = v == 1;
        } else {
            k.load = v;
        }
        return was;
    }

    int become(int knot, int km) {
        if (noKnot(knot) || out(km, 0, 69)) {
            return error(1);
        }
        Knot k = knots.get(knot);
        int was = k.kind;
        k.kind = km / 10;
        k.m = km % 10;
        return was;
    }

    private static String above(int kind) {
        return new String[] {"0", "10", "20", "30", "410", "520", "630"}[kind];
    }

    int as(int knot, int kind) {
        if (noKnot(knot) || out(kind, 0, 6)) {
            return error(1);
        }
        Knot k = knots.get(knot);
        return above(k.kind).indexOf('0' + kind) < 0 ? error(5) : k.m;
    }

    int feed(long word, int n) {
        if (out(n, 1, 8)) {
            return error(1);
        }
        if (tape.length() + n > 50) {
            return error(4);
        }
        long w = word;
        for (int i = 0; i < n; i++) {
            tape += (char) (w & 0xff);
            w >>= 8;
        }
        return tape.length();
    }

    int text(int use) {
        if (out(use, 0, 1)) {
            return error(1);
        }
        String s = tape;
        tape = "";
        int fault = TEXTS[use].fault(s);
        if (fault != -1) {
            return -10 - fault;
        }
        laws[use] = s;
        return 1;
    }

    int law(int use, int a, int b, int c) {
        return out(use, 0, 1) ? error(1) : gives(use, a, b, c);
    }

    int years(int n) {
        if (out(n, 1, 60)) {
            return error(1);
        }
        if (year + n > 999) {
            return error(3);
        }
        for (int i = 0; i < n; i++) {
            passYear();
        }
        return together();
    }

    int loose(int n) {
        if (out(n, 1, 40)) {
            return error(1);
        }
        if (year + n > 999) {
            return error(3);
        }
        for (int i = 0; i < n; i++) {
            z = (int) ((long) z * 1103515245L + 12345L);
            long draw = Integer.toUnsignedLong(z) / 256;
            if (draw % 5 == 0) {
                Person p = people.get((int) (draw / 8 % people.size()));
                p.there = !p.there;
            }
            passYear();
        }
        return together();
    }

    int year(int v) {
        if (out(v, 0, 999)) {
            return error(1);
        }
        int was = year;
        year = v;
        return was;
    }

    int then(int n, int person, int what) {
        if (out(n, 0, 60) || noPerson(person) || out(what, 0, 1)) {
            return error(1);
        }
        Person p = behind(n).people.get(person);
        return what == 0 ? p.left : p.right;
    }

    int can(int knot, int pair, int what) {
        if (noKnot(knot) || noPair(pair) || out(what, 0, 1)) {
            return error(1);
        }
        Knot k = knots.get(knot);
        return what == 0 ? misses(k, pair / 10, pair % 10) : isCan(k, pair / 10, pair % 10) ? 1 : 0;
    }

    int last(int knot) {
        if (noKnot(knot)) {
            return error(1);
        }
        for (int n = 60; n >= 0; n--) {
            if (own(knot, n)) {
                return n;
            }
        }
        return error(2);
    }

    int open(int n) {
        return out(n, 0, 60) ? error(1) : set(behind(n).opened());
    }

    int pair(int knot, int what) {
        if (noKnot(knot) || out(what, 0, 1)) {
            return error(1);
        }
        Model m = freed(knot);
        Knot k = m.knots.get(knot);
        for (int misses = 0; misses <= 2000; misses++) {
            for (int pair : m.whoCan(knot)) {
                if (m.misses(k, pair / 10, pair % 10) == misses) {
                    return what == 0 ? pair : misses;
                }
            }
        }
        return error(2);
    }

    int miss(int n, int what) {
        if (out(n, 0, 20) || out(what, 0, 1)) {
            return error(1);
        }
        int best = -1;
        int least = Integer.MAX_VALUE;
        for (int person = 0; person < people.size(); person++) {
            if (there(person)) {
                Model m = copy();
                m.people.get(person).there = false;
                int open = m.behind(n).opened().size();
                if (open < least) {
                    least = open;
                    best = person;
                }
            }
        }
        return best < 0 ? error(2) : what == 0 ? best : least;
    }

    int keep() {
        int all = opened().size();
        int there = count(4);
        for (int size = 0; size <= 6; size++) {
            for (int set = 0; set <= there; set++) {
                if ((set | there) != there || Integer.bitCount(set) != size) {
                    continue;
                }
                Model m = copy();
                for (int i = 0; i < m.people.size(); i++) {
                    m.people.get(i).there = (set >> i & 1) != 0;
                }
                if (m.opened().size() == all) {
                    return set;
                }
            }
        }
        throw new IllegalStateException();
    }

    int whose(int crossing, int what) {
        if (out(crossing, 0, 198) || out(what, 0, 1)) {
            return error(1);
        }
        List<Integer> all = new ArrayList<>();
        for (int pair = 0; pair < 100; pair++) {
            if (!noPair(pair) && people.get(pair / 10).left + people.get(pair % 10).right == crossing) {
                all.add(pair);
            }
        }
        return what == 0 ? all.size() : all.isEmpty() ? error(2) : all.get(0);
    }

    int holds(int knot) {
        if (noKnot(knot)) {
            return error(1);
        }
        TreeSet<Integer> held = new TreeSet<>();
        TreeSet<Integer> from = new TreeSet<>();
        from.add(knot);
        for (int round = 0; round < 9; round++) {
            for (int i = 0; i < knots.size(); i++) {
                if (knots.get(i).tied && from.contains(knots.get(i).under)) {
                    held.add(i);
                }
            }
            from.addAll(held);
        }
        return set(held);
    }

    int alike() {
        int twice = 0;
        for (Knot a : knots) {
            for (Knot b : knots) {
                twice += a != b && a.tied && b.tied && a.crossing == b.crossing ? 1 : 0;
            }
        }
        return twice / 2;
    }

    int waitFor(int knot) {
        if (noKnot(knot)) {
            return error(1);
        }
        for (int n = 0; n <= 60; n++) {
            if (!freed(knot).behind(n).whoCan(knot).isEmpty()) {
                return n;
            }
        }
        return error(2);
    }

    int odds(int knot, int part) {
        if (noKnot(knot) || out(part, 0, 1)) {
            return error(1);
        }
        int often = 0;
        for (int n = 0; n <= 9; n++) {
            often += own(knot, n) ? 1 : 0;
        }
        int[] above = {0, 1, 1, 3, 2, 1, 3, 7, 4, 9, 1};
        int[] below = {1, 10, 5, 10, 5, 2, 5, 10, 5, 10, 1};
        return part == 0 ? above[often] : below[often];
    }

    int fits(int sheet) {
        if (out(sheet, 0, 3)) {
            return error(1);
        }
        if (sheets[sheet] == null) {
            return error(2);
        }
        int n = 0;
        for (long v : sheets[sheet]) {
            if (n >= knots.size()) {
                break;
            }
            Knot k = knots.get(n);
            if (people.get(k.one).left + people.get(k.other).right != v) {
                break;
            }
            n++;
        }
        return n;
    }

    int seed(int v) {
        int was = z;
        z = v;
        return was;
    }

    /** The KINDS as Java's own classes, so that Java looks for the BODIES. */
    private static class VoiceKnot {
        final int n;
        final int m;
        final List<Integer> trace;

        VoiceKnot(int n, int m, List<Integer> trace) {
            this.n = n;
            this.m = m;
            this.trace = trace;
        }

        int binds(int x) {
            trace.add(10);
            return x + n;
        }

        int tightens(int x) {
            trace.add(11);
            return binds(x) * 2;
        }

        int slips(int x) {
            trace.add(12);
            return x - m;
        }

        int tells(int x) {
            trace.add(13);
            return tightens(x) ^ slips(x);
        }
    }

    private static class VoiceBow extends VoiceKnot {
        VoiceBow(int n, int m, List<Integer> trace) {
            super(n, m, trace);
        }

        @Override
        int binds(int x) {
            trace.add(20);
            return super.binds(x) * 3;
        }
    }

    private static class VoiceSlip extends VoiceKnot {
        VoiceSlip(int n, int m, List<Integer> trace) {
            super(n, m, trace);
        }

        @Override
        int tightens(int x) {
            trace.add(30);
            return super.tightens(x) - slips(1);
        }
    }

    private static class VoiceLace extends VoiceKnot {
        VoiceLace(int n, int m, List<Integer> trace) {
            super(n, m, trace);
        }

        @Override
        int slips(int x) {
            trace.add(40);
            return -super.slips(x);
        }
    }

    private static final class VoiceHitch extends VoiceBow {
        VoiceHitch(int n, int m, List<Integer> trace) {
            super(n, m, trace);
        }

        @Override
        int tells(int x) {
            trace.add(50);
            return super.tells(x) - binds(2);
        }
    }

    private static final class VoiceLoop extends VoiceSlip {
        VoiceLoop(int n, int m, List<Integer> trace) {
            super(n, m, trace);
        }

        @Override
        int tightens(int x) {
            trace.add(60);
            return super.tightens(x + 1);
        }
    }

    private static final class VoiceParcel extends VoiceLace {
        VoiceParcel(int n, int m, List<Integer> trace) {
            super(n, m, trace);
        }

        @Override
        int slips(int x) {
            trace.add(70);
            return super.slips(x) ^ n;
        }

        @Override
        int tells(int x) {
            trace.add(71);
            return tightens(x) - super.tells(x);
        }
    }

    private VoiceKnot voiceOf(int knot) {
        int m = knots.get(knot).m;
        switch (knots.get(knot).kind) {
            case 0: return new VoiceKnot(knot, m, trace);
            case 1: return new VoiceBow(knot, m, trace);
            case 2: return new VoiceSlip(knot, m, trace);
            case 3: return new VoiceLace(knot, m, trace);
            case 4: return new VoiceHitch(knot, m, trace);
            case 5: return new VoiceLoop(knot, m, trace);
            default: return new VoiceParcel(knot, m, trace);
        }
    }

    int voice(int knot, int act, int x) {
        if (noKnot(knot) || out(act, 0, 3)) {
            return error(1);
        }
        trace.clear();
        VoiceKnot v = voiceOf(knot);
        return act == 0 ? v.binds(x) : act == 1 ? v.tightens(x) : act == 2 ? v.slips(x) : v.tells(x);
    }

    int trace(int i) {
        return out(i, 0, Math.min(40, trace.size()) - 1) ? error(2) : trace.get(i);
    }

    int sheet(int sheet, int wanted, int n) {
        if (out(sheet, 0, 3) || (wanted != 0 && wanted != 8 && wanted != 16 && wanted != 32)) {
            return error(1);
        }
        if (wanted != 0 && n < 0) {
            return error(3);
        }
        if (wanted != 0 && n > 40) {
            return error(1);
        }
        sheets[sheet] = wanted == 0 ? null : new long[n];
        bits[sheet] = wanted;
        return 1;
    }

    int put(int sheet, int i, int v) {
        if (out(sheet, 0, 3)) {
            return error(1);
        }
        if (sheets[sheet] == null) {
            return error(2);
        }
        if (out(i, 0, sheets[sheet].length - 1)) {
            return error(1);
        }
        int cut = 32 - bits[sheet];
        sheets[sheet][i] = v << cut >> cut;
        return 1;
    }

    int move(int sheet, int i, int other, int j, int n) {
        if (out(sheet, 0, 3) || out(other, 0, 3)) {
            return error(1);
        }
        if (sheets[sheet] == null || sheets[other] == null) {
            return error(2);
        }
        if (bits[sheet] != bits[other]) {
            return error(5);
        }
        if (n < 0 || i < 0 || j < 0 || (long) i + n > sheets[sheet].length || (long) j + n > sheets[other].length) {
            return error(1);
        }
        long[] were = sheets[sheet].clone();
        for (int k = 0; k < n; k++) {
            sheets[other][j + k] = were[i + k];
        }
        return n;
    }

    int loads(int sheet) {
        if (out(sheet, 0, 3)) {
            return error(1);
        }
        if (sheets[sheet] == null) {
            return error(2);
        }
        int n = 0;
        for (long v : sheets[sheet]) {
            if (v < 0 || v > 99 || n == knots.size()) {
                break;
            }
            knots.get(n++).load = (int) v;
        }
        return n;
    }

    int judge(int sheet) {
        if (out(sheet, 0, 3)) {
            return error(1);
        }
        if (sheets[sheet] == null) {
            return error(2);
        }
        for (int i = 0; i < 48; i++) {
            boolean told = i < sheets[sheet].length;
            boolean is = i < knots.size();
            if (told != is || (told && sheets[sheet][i] != knots.get(i).crossing)) {
                return i;
            }
        }
        return -1;
    }

    int image() {
        image = copy();
        return ++images;
    }

    int restore() {
        if (image == null) {
            return error(2);
        }
        Model from = image.copy();
        people = from.people;
        knots = from.knots;
        year = from.year;
        z = from.z;
        tape = from.tape;
        laws = from.laws;
        waiting = from.waiting;
        return year;
    }

    int tell(int v) {
        if (waiting.size() == 20) {
            return error(4);
        }
        waiting.add(v);
        return waiting.size();
    }

    int check() {
        List<Integer> numbers = waiting;
        waiting = new ArrayList<>();
        for (int i = 0; i < numbers.size(); i++) {
            if (behind(i + 1).together() != numbers.get(i)) {
                return 1 + i;
            }
        }
        return 0;
    }

    int count(int what) {
        int there = 0;
        for (int i = 0; i < people.size(); i++) {
            there += there(i) ? 1 << i : 0;
        }
        int tied = 0;
        for (int i = 0; i < knots.size(); i++) {
            tied += knots.get(i).tied ? 1 << i : 0;
        }
        int[] all = {people.size(), knots.size(), year, together(), there, tied, tape.length(), waiting.size(),
            Math.min(40, trace.size()), z};
        return out(what, 0, 9) ? error(1) : all[what];
    }

    int told(int k) {
        return out(k, 1, 5) ? error(1) : told[k];
    }
}
