/** A house in which whatever two have knotted is got loose only by hands that are crossed. */
public final class CrossedKnots {
    private static final int LOW = -1000000000;
    private static final int BEYOND = 1;
    private static final int NONE = 2;
    private static final int STATE = 3;
    private static final int FULL = 4;
    private static final int KIND = 5;

    private static final int MOST_YEARS = 60;
    private static final int MOST_DRAWN_YEARS = 40;
    private static final int MOST_MISS_YEARS = 20;
    private static final int ODDS_YEARS = 10;
    private static final int LAST_YEAR = 999;
    private static final int MOST_HAND = 99;
    private static final int MOST_CROSSING = 198;
    private static final int MOST_LOAD = 99;
    private static final int MOST_KM = 69;

    private final House house = new House();
    private final House kept = new House();
    private int images = 0;
    private final Thought thought = new Thought();
    private final Reader reader = new Reader();
    private final Voices voices = new Voices();
    private final Sheet[] sheets = {new Sheet(), new Sheet(), new Sheet(), new Sheet()};
    private final int[] errors = new int[KIND + 1];

    public CrossedKnots() {
    }

    // ---- people, hands

    public int people(int n) {
        if (n < 2 || n > House.MOST_PEOPLE) {
            return error(BEYOND);
        }
        if (house.knotCount > 0) {
            return error(STATE);
        }
        int before = house.size;
        house.settle(n);
        return before;
    }

    public int hand(int person, int what, int v) {
        int most = what == 2 ? 1 : MOST_HAND;
        if (!house.isPerson(person) || !within(what, 2) || !within(v, most)) {
            return error(BEYOND);
        }
        int before = house.personHas(person, what);
        if (what == 2) {
            house.setThere(person, v == 1);
        } else {
            house.hands.setHand(person, what, v);
        }
        return before;
    }

    public int ofPerson(int person, int what) {
        if (!house.isPerson(person) || !within(what, 2)) {
            return error(BEYOND);
        }
        return house.personHas(person, what);
    }

    // ---- knots

    public int bind(int km, int pair, int under) {
        if (!within(km, MOST_KM) || !house.isPair(pair) || under < -1 || under >= house.knotCount) {
            return error(BEYOND);
        }
        if (house.knotCount >= House.MOST_KNOTS) {
            return error(FULL);
        }
        if (!house.areThere(pair / 10, pair % 10)) {
            return error(STATE);
        }
        return house.addKnot(km, pair, under);
    }

    public int undo(int knot, int pair) {
        Knot k = house.knotAt(knot);
        if (k == null || !house.isPair(pair)) {
            return error(BEYOND);
        }
        if (!canNow(k, pair)) {
            return error(STATE);
        }
        k.tied = false;
        return Integer.bitCount(house.tiedSet());
    }

    public int ofKnot(int knot, int what) {
        Knot k = house.knotAt(knot);
        if (k == null || !within(what, 9)) {
            return error(BEYOND);
        }
        return what == 9 ? k.ease(house.hands.year) : k.fact(what);
    }

    public int change(int knot, int what, int v) {
        Knot k = house.knotAt(knot);
        if (k == null || !within(what, 3) || !within(v, mostOfChange(what))) {
            return error(BEYOND);
        }
        return k.alter(what, v);
    }

    public int become(int knot, int km) {
        Knot k = house.knotAt(knot);
        if (k == null || !within(km, MOST_KM)) {
            return error(BEYOND);
        }
        int before = k.kind;
        k.kind = km / 10;
        k.m = km % 10;
        return before;
    }

    public int as(int knot, int kind) {
        Knot k = house.knotAt(knot);
        if (k == null || !within(kind, Knot.PARCEL)) {
            return error(BEYOND);
        }
        return k.isOf(kind) ? k.m : error(KIND);
    }

    // ---- texts

    public int feed(long word, int n) {
        if (n < 1 || n > 8) {
            return error(BEYOND);
        }
        if (house.tapeLength + n > House.MOST_TAPE) {
            return error(FULL);
        }
        for (int i = 0; i < n; i++) {
            house.addByte((int) (word >>> (8 * i)) & 255);
        }
        return house.tapeLength;
    }

    public int text(int use) {
        Law law = house.lawAt(use);
        if (law == null) {
            return error(BEYOND);
        }
        int fault = reader.faultOf(house.tape, house.tapeLength, use);
        house.tapeLength = 0;
        if (fault >= 0) {
            return -10 - fault;
        }
        law.copyFrom(reader.draft);
        return 1;
    }

    public int law(int use, int a, int b, int c) {
        Law law = house.lawAt(use);
        if (law == null) {
            return error(BEYOND);
        }
        return law.given(a, b, c);
    }

    // ---- years

    public int years(int n) {
        if (n < 1 || n > MOST_YEARS) {
            return error(BEYOND);
        }
        if (house.hands.year + n > LAST_YEAR) {
            return error(STATE);
        }
        for (int i = 0; i < n; i++) {
            house.hands.goAhead(house);
        }
        return house.hands.together(house.size);
    }

    public int loose(int n) {
        if (n < 1 || n > MOST_DRAWN_YEARS) {
            return error(BEYOND);
        }
        if (house.hands.year + n > LAST_YEAR) {
            return error(STATE);
        }
        for (int i = 0; i < n; i++) {
            house.comeOrGo();
            house.hands.goAhead(house);
        }
        return house.hands.together(house.size);
    }

    public int year(int v) {
        if (!within(v, LAST_YEAR)) {
            return error(BEYOND);
        }
        int before = house.hands.year;
        house.hands.year = v;
        return before;
    }

    // ---- what would be

    public int then(int n, int person, int what) {
        if (!within(n, MOST_YEARS) || !house.isPerson(person) || !within(what, 1)) {
            return error(BEYOND);
        }
        thought.goBehind(house, n);
        return thought.hands.handOf(person, what);
    }

    public int can(int knot, int pair, int what) {
        Knot k = house.knotAt(knot);
        if (k == null || !house.isPair(pair) || !within(what, 1)) {
            return error(BEYOND);
        }
        if (what == 0) {
            return k.misses(house.hands, pair / 10, pair % 10);
        }
        return canNow(k, pair) ? 1 : 0;
    }

    public int last(int knot) {
        Knot k = house.knotAt(knot);
        if (k == null) {
            return error(BEYOND);
        }
        int latest = -1;
        thought.goBehind(house, 0);
        for (int n = 0; n <= MOST_YEARS; n++) {
            if (thought.isOwn(house, k)) {
                latest = n;
            }
            thought.goOn(house);
        }
        return latest < 0 ? error(NONE) : latest;
    }

    public int open(int n) {
        if (!within(n, MOST_YEARS)) {
            return error(BEYOND);
        }
        thought.goBehind(house, n);
        thought.findWays(house);
        return thought.openWith(house, house.there);
    }

    public int pair(int knot, int what) {
        Knot k = house.knotAt(knot);
        if (k == null || !within(what, 1)) {
            return error(BEYOND);
        }
        thought.goBehind(house, 0);
        int nearest = thought.nearestPair(house, k);
        if (nearest < 0) {
            return error(NONE);
        }
        return what == 0 ? nearest : k.misses(house.hands, nearest / 10, nearest % 10);
    }

    public int miss(int n, int what) {
        if (!within(n, MOST_MISS_YEARS) || !within(what, 1)) {
            return error(BEYOND);
        }
        if (house.there == 0) {
            return error(NONE);
        }
        thought.goBehind(house, n);
        thought.findWays(house);
        int who = thought.mostMissed(house);
        return what == 0 ? who : thought.openWithout(house, who);
    }

    public int keep() {
        thought.goBehind(house, 0);
        thought.findWays(house);
        return thought.fewestKept(house);
    }

    public int whose(int crossing, int what) {
        if (!within(crossing, MOST_CROSSING) || !within(what, 1)) {
            return error(BEYOND);
        }
        int found = 0;
        int first = -1;
        for (int one = 0; one < house.size; one++) {
            for (int other = 0; other < house.size; other++) {
                if (one != other && house.hands.crossing(one, other) == crossing) {
                    first = found == 0 ? 10 * one + other : first;
                    found++;
                }
            }
        }
        if (what == 0) {
            return found;
        }
        return found == 0 ? error(NONE) : first;
    }

    public int holds(int knot) {
        Knot k = house.knotAt(knot);
        if (k == null) {
            return error(BEYOND);
        }
        return house.heldBy(knot);
    }

    public int alike() {
        int pairs = 0;
        for (int i = 0; i < house.knotCount; i++) {
            for (int j = 0; j < i; j++) {
                Knot a = house.knots[i];
                Knot b = house.knots[j];
                if (a.tied && b.tied && a.crossing == b.crossing) {
                    pairs++;
                }
            }
        }
        return pairs;
    }

    public int waitFor(int knot) {
        Knot k = house.knotAt(knot);
        if (k == null) {
            return error(BEYOND);
        }
        thought.goBehind(house, 0);
        for (int n = 0; n <= MOST_YEARS; n++) {
            if (thought.nearestPair(house, k) >= 0) {
                return n;
            }
            thought.goOn(house);
        }
        return error(NONE);
    }

    public int odds(int knot, int part) {
        Knot k = house.knotAt(knot);
        if (k == null || !within(part, 1)) {
            return error(BEYOND);
        }
        int above = 0;
        thought.goBehind(house, 0);
        for (int n = 0; n < ODDS_YEARS; n++) {
            above += thought.isOwn(house, k) ? 1 : 0;
            thought.goOn(house);
        }
        int divisor = commonDivisor(above, ODDS_YEARS);
        return (part == 0 ? above : ODDS_YEARS) / divisor;
    }

    public int fits(int sheet) {
        Sheet s = sheetAt(sheet);
        if (s == null) {
            return error(BEYOND);
        }
        if (s.bits == 0) {
            return error(NONE);
        }
        int fitting = 0;
        int end = Math.min(s.size, house.knotCount);
        while (fitting < end && s.numbers[fitting] == house.crossingNow(fitting)) {
            fitting++;
        }
        return fitting;
    }

    // ---- draws, voices, sheets, images, what is told

    public int seed(int v) {
        int before = house.z;
        house.z = v;
        return before;
    }

    public int voice(int knot, int act, int x) {
        Knot k = house.knotAt(knot);
        if (k == null || !within(act, Voices.TELLS)) {
            return error(BEYOND);
        }
        return voices.speak(knot, k, act, x);
    }

    public int trace(int i) {
        if (i < 0 || i >= voices.traced) {
            return error(NONE);
        }
        return voices.bodies[i];
    }

    public int sheet(int sheet, int bits, int n) {
        Sheet s = sheetAt(sheet);
        if (s == null || (bits != 0 && bits != 8 && bits != 16 && bits != 32)) {
            return error(BEYOND);
        }
        if (bits == 0) {
            s.lay(0, 0);
            return 1;
        }
        if (n < 0) {
            return error(STATE);
        }
        if (n > Sheet.MOST_NUMBERS) {
            return error(BEYOND);
        }
        s.lay(bits, n);
        return 1;
    }

    public int put(int sheet, int i, int v) {
        Sheet s = sheetAt(sheet);
        if (s == null) {
            return error(BEYOND);
        }
        if (s.bits == 0) {
            return error(NONE);
        }
        if (i < 0 || i >= s.size) {
            return error(BEYOND);
        }
        s.numbers[i] = s.lowestBits(v);
        return 1;
    }

    public int move(int sheet, int i, int other, int j, int n) {
        Sheet from = sheetAt(sheet);
        Sheet to = sheetAt(other);
        if (from == null || to == null) {
            return error(BEYOND);
        }
        if (from.bits == 0 || to.bits == 0) {
            return error(NONE);
        }
        if (from.bits != to.bits) {
            return error(KIND);
        }
        if (!from.hasPart(i, n) || !to.hasPart(j, n)) {
            return error(BEYOND);
        }
        System.arraycopy(from.numbers, i, to.numbers, j, n);
        return n;
    }

    public int loads(int sheet) {
        Sheet s = sheetAt(sheet);
        if (s == null) {
            return error(BEYOND);
        }
        if (s.bits == 0) {
            return error(NONE);
        }
        int end = Math.min(s.size, house.knotCount);
        int i = 0;
        while (i < end && within(s.numbers[i], MOST_LOAD)) {
            house.knots[i].load = s.numbers[i];
            i++;
        }
        return i;
    }

    public int judge(int sheet) {
        Sheet s = sheetAt(sheet);
        if (s == null) {
            return error(BEYOND);
        }
        if (s.bits == 0) {
            return error(NONE);
        }
        int end = Math.min(s.size, house.knotCount);
        for (int i = 0; i < end; i++) {
            if (s.numbers[i] != house.knots[i].crossing) {
                return i;
            }
        }
        return s.size == house.knotCount ? -1 : end;
    }

    public int image() {
        kept.copyFrom(house);
        images++;
        return images;
    }

    public int restore() {
        if (images == 0) {
            return error(NONE);
        }
        house.copyFrom(kept);
        return house.hands.year;
    }

    public int tell(int v) {
        if (house.waitingCount >= House.MOST_WAITING) {
            return error(FULL);
        }
        house.waiting[house.waitingCount] = v;
        house.waitingCount++;
        return house.waitingCount;
    }

    public int check() {
        int waited = house.waitingCount;
        house.waitingCount = 0;
        thought.goBehind(house, 0);
        for (int i = 0; i < waited; i++) {
            thought.goOn(house);
            if (house.waiting[i] != thought.hands.together(house.size)) {
                return 1 + i;
            }
        }
        return 0;
    }

    public int count(int what) {
        switch (what) {
            case 0:
                return house.size;
            case 1:
                return house.knotCount;
            case 2:
                return house.hands.year;
            case 3:
                return house.hands.together(house.size);
            case 4:
                return house.there;
            case 5:
                return house.tiedSet();
            case 6:
                return house.tapeLength;
            case 7:
                return house.waitingCount;
            case 8:
                return voices.traced;
            case 9:
                return house.z;
            default:
                return error(BEYOND);
        }
    }

    public int told(int k) {
        if (k < BEYOND || k > KIND) {
            return error(BEYOND);
        }
        return errors[k];
    }

    /** Counted here and not by the answer's size: some calls may answer any number. */
    private int error(int which) {
        if (which >= BEYOND && which <= KIND) {
            errors[which]++;
        }
        return LOW - which;
    }

    private static boolean within(int v, int most) {
        return v >= 0 && v <= most;
    }

    private static int mostOfChange(int what) {
        switch (what) {
            case 0:
                return MOST_CROSSING;
            case 1:
                return LAST_YEAR;
            case 2:
                return 1;
            default:
                return MOST_LOAD;
        }
    }

    /** The greatest that divides both; never 0, b being above 0. */
    private static int commonDivisor(int a, int b) {
        for (int d = b; d > 1; d--) {
            if (a % d == 0 && b % d == 0) {
                return d;
            }
        }
        return 1;
    }

    private Sheet sheetAt(int number) {
        return number < 0 || number >= sheets.length ? null : sheets[number];
    }

    private boolean canNow(Knot k, int pair) {
        thought.goBehind(house, 0);
        return !house.isHeld(k) && thought.canWereItFree(house, k, pair / 10, pair % 10);
    }

    /** LEFT and RIGHT of all, in a YEAR. */
    private static final class Hands {
        final int[] left = new int[House.MOST_PEOPLE];
        final int[] right = new int[House.MOST_PEOPLE];
        int year = 0;

        void copyFrom(Hands other) {
            System.arraycopy(other.left, 0, left, 0, left.length);
            System.arraycopy(other.right, 0, right, 0, right.length);
            year = other.year;
        }

        /** what 0 LEFT, 1 RIGHT. */
        int handOf(int person, int what) {
            if (person < 0 || person >= left.length) {
                return 0;
            }
            return what == 0 ? left[person] : right[person];
        }

        void setHand(int person, int what, int v) {
            if (person < 0 || person >= left.length) {
                return;
            }
            if (what == 0) {
                left[person] = v;
            } else {
                right[person] = v;
            }
        }

        int crossing(int one, int other) {
            return handOf(one, 0) + handOf(other, 1);
        }

        int pull(int one, int other) {
            return handOf(one, 1) + handOf(other, 0);
        }

        int together(int people) {
            int sum = 0;
            for (int i = 0; i < people && i < left.length; i++) {
                sum += left[i] + right[i];
            }
            return sum;
        }

        void goAhead(House house) {
            int y = year % 10;
            for (int i = 0; i < house.size && i < left.length; i++) {
                if (house.isThere(i)) {
                    left[i] = house.changes.given(left[i], 0, y);
                    right[i] = house.changes.given(right[i], 1, y);
                }
            }
            year++;
        }
    }

    /** One KNOT. */
    private static final class Knot {
        static final int PLAIN = 0;
        static final int BOW = 1;
        static final int SLIP = 2;
        static final int LACE = 3;
        static final int HITCH = 4;
        static final int LOOP = 5;
        static final int PARCEL = 6;
        private static final int[] KIND_ABOVE = {-1, PLAIN, PLAIN, PLAIN, BOW, SLIP, LACE};
        private static final int PLAIN_EASE = 5;

        int kind;
        int m;
        int one;
        int other;
        int crossing;
        int year;
        int under;
        boolean tied;
        int load;

        void copyFrom(Knot k) {
            kind = k.kind;
            m = k.m;
            one = k.one;
            other = k.other;
            crossing = k.crossing;
            year = k.year;
            under = k.under;
            tied = k.tied;
            load = k.load;
        }

        /** The KIND above one, -1 above KNOT. */
        static int above(int kind) {
            return kind < 0 || kind >= KIND_ABOVE.length ? -1 : KIND_ABOVE[kind];
        }

        boolean isOf(int wanted) {
            int own = kind;
            for (int step = 0; step < KIND_ABOVE.length && own >= 0; step++) {
                if (own == wanted) {
                    return true;
                }
                own = above(own);
            }
            return false;
        }

        int fact(int what) {
            switch (what) {
                case 0:
                    return kind;
                case 1:
                    return m;
                case 2:
                    return one;
                case 3:
                    return other;
                case 4:
                    return crossing;
                case 5:
                    return year;
                case 6:
                    return under;
                case 7:
                    return tied ? 1 : 0;
                default:
                    return load;
            }
        }

        /** CROSSING, YEAR, TIED or LOAD becomes v: what it was. */
        int alter(int what, int v) {
            int before;
            switch (what) {
                case 0:
                    before = crossing;
                    crossing = v;
                    return before;
                case 1:
                    before = year;
                    year = v;
                    return before;
                case 2:
                    before = tied ? 1 : 0;
                    tied = v == 1;
                    return before;
                default:
                    before = load;
                    load = v;
                    return before;
            }
        }

        int ease(int now) {
            int bow = PLAIN_EASE + m;
            int slip = 2 * PLAIN_EASE;
            int lace = PLAIN_EASE - m % 5;
            switch (kind) {
                case BOW:
                    return bow;
                case SLIP:
                    return slip;
                case LACE:
                    return lace;
                case HITCH:
                    return Math.max(0, bow - load / 10);
                case LOOP:
                    return Math.max(0, slip + now - year);
                case PARCEL:
                    return load > 50 ? 0 : lace;
                default:
                    return PLAIN_EASE;
            }
        }

        int misses(Hands hands, int first, int second) {
            return Math.abs(hands.pull(first, second) - crossing);
        }

        boolean wasBoundBy(int first, int second) {
            return (first == one && second == other) || (first == other && second == one);
        }
    }

    /** All that an IMAGE keeps. */
    private static final class House {
        static final int MOST_PEOPLE = 6;
        static final int MOST_KNOTS = 8;
        static final int MOST_TAPE = 50;
        static final int MOST_WAITING = 20;

        int size = 0;
        int there = 0;
        final Hands hands = new Hands();
        final Knot[] knots = new Knot[MOST_KNOTS];
        int knotCount = 0;
        final Law changes = new Law(Law.CHANGES);
        final Law standsIn = new Law(Law.STANDS_IN);
        final int[] tape = new int[MOST_TAPE];
        int tapeLength = 0;
        final int[] waiting = new int[MOST_WAITING];
        int waitingCount = 0;
        int z = 1;

        House() {
            for (int i = 0; i < knots.length; i++) {
                knots[i] = new Knot();
            }
            settle(4);
        }

        void settle(int people) {
            size = people;
            there = (1 << people) - 1;
            for (int i = 0; i < MOST_PEOPLE; i++) {
                hands.setHand(i, 0, 10);
                hands.setHand(i, 1, 20);
            }
        }

        void copyFrom(House other) {
            size = other.size;
            there = other.there;
            hands.copyFrom(other.hands);
            knotCount = other.knotCount;
            for (int i = 0; i < knotCount; i++) {
                knots[i].copyFrom(other.knots[i]);
            }
            changes.copyFrom(other.changes);
            standsIn.copyFrom(other.standsIn);
            System.arraycopy(other.tape, 0, tape, 0, tape.length);
            tapeLength = other.tapeLength;
            System.arraycopy(other.waiting, 0, waiting, 0, waiting.length);
            waitingCount = other.waitingCount;
            z = other.z;
        }

        boolean isPerson(int person) {
            return person >= 0 && person < size;
        }

        boolean isPair(int pair) {
            return pair >= 0 && isPerson(pair / 10) && isPerson(pair % 10) && pair / 10 != pair % 10;
        }

        boolean isThere(int person) {
            return isPerson(person) && (there >> person & 1) == 1;
        }

        boolean areThere(int one, int other) {
            return isThere(one) && isThere(other);
        }

        void setThere(int person, boolean is) {
            if (isPerson(person)) {
                there = is ? there | 1 << person : there & ~(1 << person);
            }
        }

        /** what 0 LEFT, 1 RIGHT, 2 THERE. */
        int personHas(int person, int what) {
            if (what == 2) {
                return isThere(person) ? 1 : 0;
            }
            return hands.handOf(person, what);
        }

        Knot knotAt(int number) {
            return number < 0 || number >= knotCount || number >= knots.length ? null : knots[number];
        }

        Law lawAt(int use) {
            if (use == Law.CHANGES) {
                return changes;
            }
            return use == Law.STANDS_IN ? standsIn : null;
        }

        int addKnot(int km, int pair, int under) {
            if (knotCount >= knots.length) {
                return -1;
            }
            Knot k = knots[knotCount];
            k.kind = km / 10;
            k.m = km % 10;
            k.one = pair / 10;
            k.other = pair % 10;
            k.crossing = hands.crossing(k.one, k.other);
            k.year = hands.year;
            k.under = under;
            k.tied = true;
            k.load = 0;
            knotCount++;
            return knotCount - 1;
        }

        void addByte(int b) {
            if (tapeLength < tape.length) {
                tape[tapeLength] = b;
                tapeLength++;
            }
        }

        int tiedSet() {
            int set = 0;
            for (int i = 0; i < knotCount; i++) {
                if (knots[i].tied) {
                    set |= 1 << i;
                }
            }
            return set;
        }

        boolean isHeld(Knot k) {
            Knot holder = knotAt(k.under);
            return holder != null && holder.tied;
        }

        /** One pass is enough: a KNOT is UNDER one of a lesser number. */
        int heldBy(int number) {
            int set = 0;
            for (int i = 0; i < knotCount; i++) {
                int under = knots[i].under;
                boolean reached = under >= 0 && (under == number || (set >> under & 1) == 1);
                if (knots[i].tied && reached) {
                    set |= 1 << i;
                }
            }
            return set;
        }

        int crossingNow(int number) {
            Knot k = knotAt(number);
            return k == null ? -1 : hands.crossing(k.one, k.other);
        }

        /** One draw; by it one of PEOPLE comes or leaves. */
        void comeOrGo() {
            z = z * 1103515245 + 12345;
            int draw = z >>> 8;
            if (draw % 5 == 0 && size > 0) {
                int person = draw / 8 % size;
                setThere(person, !isThere(person));
            }
        }
    }

    /** What would be, the HANDS being as in a YEAR that is thought of. */
    private static final class Thought {
        final Hands hands = new Hands();
        /** For each KNOT, bit s: the two who are the set s could undo it, were it UNDER none. */
        private final long[] ways = new long[House.MOST_KNOTS];

        void goBehind(House house, int n) {
            hands.copyFrom(house.hands);
            for (int i = 0; i < n; i++) {
                goOn(house);
            }
        }

        void goOn(House house) {
            hands.goAhead(house);
        }

        /** All of CAN but who is THERE, what is TIED, and what holds it. */
        private boolean loosens(House house, Knot k, int one, int other) {
            int misses = k.misses(hands, one, other);
            if (misses > k.ease(hands.year)) {
                return false;
            }
            return k.wasBoundBy(one, other) || house.standsIn.given(misses, k.m, k.load) != 0;
        }

        boolean canWereItFree(House house, Knot k, int one, int other) {
            return k.tied && house.areThere(one, other) && loosens(house, k, one, other);
        }

        boolean isOwn(House house, Knot k) {
            return canWereItFree(house, k, k.one, k.other) || canWereItFree(house, k, k.other, k.one);
        }

        /** The first two with least MISSES, -1 if there are none. */
        int nearestPair(House house, Knot k) {
            int nearest = -1;
            int least = 0;
            for (int one = 0; one < house.size; one++) {
                for (int other = 0; other < house.size; other++) {
                    int misses = k.misses(hands, one, other);
                    boolean nearer = nearest < 0 || misses < least;
                    if (one != other && nearer && canWereItFree(house, k, one, other)) {
                        nearest = 10 * one + other;
                        least = misses;
                    }
                }
            }
            return nearest;
        }

        /** Who could undo what is worked out once; the sets of people are tried on that. */
        void findWays(House house) {
            for (int i = 0; i < house.knotCount && i < ways.length; i++) {
                ways[i] = waysOf(house, house.knots[i]);
            }
        }

        private long waysOf(House house, Knot k) {
            long found = 0;
            for (int one = 0; one < house.size; one++) {
                for (int other = 0; other < one; other++) {
                    if (loosens(house, k, one, other) || loosens(house, k, other, one)) {
                        found |= 1L << (1 << one | 1 << other);
                    }
                }
            }
            return found;
        }

        private static long pairsWithin(int set) {
            long pairs = 0;
            for (int one = 0; one < House.MOST_PEOPLE; one++) {
                for (int other = 0; other < one; other++) {
                    if ((set >> one & set >> other & 1) == 1) {
                        pairs |= 1L << (1 << one | 1 << other);
                    }
                }
            }
            return pairs;
        }

        /** Of findWays(): one pass is enough, a KNOT being UNDER one of a lesser number. */
        int openWith(House house, int there) {
            long pairs = pairsWithin(there);
            int still = house.tiedSet();
            int undone = 0;
            for (int i = 0; i < house.knotCount && i < ways.length; i++) {
                int under = house.knots[i].under;
                boolean held = under >= 0 && (still >> under & 1) == 1;
                if ((still >> i & 1) == 1 && !held && (ways[i] & pairs) != 0) {
                    still &= ~(1 << i);
                    undone |= 1 << i;
                }
            }
            return undone;
        }

        int openWithout(House house, int person) {
            return Integer.bitCount(openWith(house, house.there & ~(1 << person)));
        }

        int mostMissed(House house) {
            int who = -1;
            int fewest = 0;
            for (int person = 0; person < house.size; person++) {
                if (!house.isThere(person)) {
                    continue;
                }
                int left = openWithout(house, person);
                if (who < 0 || left < fewest) {
                    who = person;
                    fewest = left;
                }
            }
            return who;
        }

        int fewestKept(House house) {
            int wanted = Integer.bitCount(openWith(house, house.there));
            int best = house.there;
            for (int set = house.there; set >= 0; set--) {
                boolean smaller = Integer.bitCount(set) <= Integer.bitCount(best);
                if ((set & ~house.there) == 0 && smaller && Integer.bitCount(openWith(house, set)) == wanted) {
                    best = set;
                }
            }
            return best;
        }
    }

    /** A USE with its TEXT, as signs in the order in which they are worked out. */
    private static final class Law {
        static final int CHANGES = 0;
        static final int STANDS_IN = 1;
        /** Of 50 bytes no more can be values: a sign stands between each two. */
        private static final int MOST_VALUES = 25;

        private final int use;
        /** NUMBERS as they are; -1, -2, -3 for NAMES; other signs below 0, by their byte. */
        private final int[] signs = new int[House.MOST_TAPE];
        private int length = 0;
        private final int[] stack = new int[MOST_VALUES];

        Law(int use) {
            this.use = use;
        }

        void copyFrom(Law other) {
            System.arraycopy(other.signs, 0, signs, 0, signs.length);
            length = other.length;
        }

        void clear() {
            length = 0;
        }

        void add(int sign) {
            if (length < signs.length) {
                signs[length] = sign;
                length++;
            }
        }

        int given(int a, int b, int c) {
            int most = use == CHANGES ? MOST_HAND : 1;
            return Math.max(0, Math.min(most, length == 0 ? withoutText(a) : workedOut(a, b, c)));
        }

        private int withoutText(int a) {
            return use == CHANGES ? a + 1 : 0;
        }

        private int workedOut(int a, int b, int c) {
            int top = 0;
            for (int i = 0; i < length; i++) {
                int sign = signs[i];
                if (isValue(sign) && top < stack.length) {
                    stack[top] = valueOf(sign, a, b, c);
                    top++;
                } else if (sign == -'!' && top >= 1) {
                    stack[top - 1] = stack[top - 1] == 0 ? 1 : 0;
                } else if (top >= 2) {
                    top--;
                    stack[top - 1] = joined(-sign, stack[top - 1], stack[top]);
                }
            }
            return top < 1 ? 0 : stack[top - 1];
        }

        private static boolean isValue(int sign) {
            return sign >= -3;
        }

        private static int valueOf(int sign, int a, int b, int c) {
            switch (sign) {
                case -1:
                    return a;
                case -2:
                    return b;
                case -3:
                    return c;
                default:
                    return sign;
            }
        }

        private static int joined(int sign, int a, int b) {
            switch (sign) {
                case '|':
                    return a != 0 || b != 0 ? 1 : 0;
                case '&':
                    return a != 0 && b != 0 ? 1 : 0;
                case '<':
                    return a < b ? 1 : 0;
                case '=':
                    return a == b ? 1 : 0;
                case '>':
                    return a > b ? 1 : 0;
                case '+':
                    return a + b;
                case '-':
                    return a - b;
                case '*':
                    return a * b;
                case '/':
                    return b == 0 ? 0 : a / b;
                case '%':
                    return b == 0 ? 0 : a % b;
                default:
                    return 0;
            }
        }
    }

    /** Reads THE TAPE; stops at the first byte with which no TEXT goes on. */
    private static final class Reader {
        private static final char[] NAMES = {'v', 'k', 'y', 'd', 'm', 'l'};
        private static final int COMPARING = 2;
        private static final int LEVELS = 5;
        private static final int MOST_OPEN = 5;
        private static final int MOST_DIGITS = 4;

        final Law draft = new Law(Law.CHANGES);
        private final int[] bytes = new int[House.MOST_TAPE];
        private int length = 0;
        private int at = 0;
        private int use = 0;

        /** The FAULT, -1 if there is none; draft has the TEXT then. */
        int faultOf(int[] tape, int count, int forUse) {
            length = Math.min(Math.min(count, tape.length), bytes.length);
            for (int i = 0; i < length; i++) {
                bytes[i] = tape[i];
            }
            at = 0;
            use = forUse;
            draft.clear();
            return readLevel(0, 0) && at == length ? -1 : at;
        }

        /** Levels 0 to 4 are T, A, B, S, P; 5 is Q. */
        private boolean readLevel(int level, int open) {
            if (level >= LEVELS) {
                return readQ(open);
            }
            if (!readLevel(level + 1, open)) {
                return false;
            }
            while (at < length && levelOf(bytes[at]) == level) {
                int sign = bytes[at];
                at++;
                if (!readLevel(level + 1, open)) {
                    return false;
                }
                draft.add(-sign);
                if (level == COMPARING) {
                    return true;
                }
            }
            return true;
        }

        private static int levelOf(int b) {
            switch (b) {
                case '|':
                    return 0;
                case '&':
                    return 1;
                case '<':
                case '=':
                case '>':
                    return COMPARING;
                case '+':
                case '-':
                    return 3;
                case '*':
                case '/':
                case '%':
                    return 4;
                default:
                    return -1;
            }
        }

        private boolean readQ(int open) {
            if (at >= length) {
                return false;
            }
            int b = bytes[at];
            if (isDigit(b)) {
                readNumber();
                return true;
            }
            int name = nameOf(b);
            if (name > 0) {
                at++;
                draft.add(-name);
                return true;
            }
            if (open >= MOST_OPEN) {
                return false;
            }
            if (b == '!') {
                return readNot(open + 1);
            }
            return b == '(' && readBracket(open + 1);
        }

        private boolean readNot(int open) {
            at++;
            if (!readQ(open)) {
                return false;
            }
            draft.add(-'!');
            return true;
        }

        private boolean readBracket(int open) {
            at++;
            if (!readLevel(0, open) || at >= length || bytes[at] != ')') {
                return false;
            }
            at++;
            return true;
        }

        private void readNumber() {
            int value = 0;
            for (int digits = 0; digits < MOST_DIGITS && at < length && isDigit(bytes[at]); digits++) {
                value = 10 * value + bytes[at] - '0';
                at++;
            }
            draft.add(value);
        }

        private static boolean isDigit(int b) {
            return b >= '0' && b <= '9';
        }

        /** 1, 2, 3 for the NAMES of the USE, 0 for what is none. */
        private int nameOf(int b) {
            for (int i = 0; i < 3; i++) {
                int place = 3 * use + i;
                if (place >= 0 && place < NAMES.length && NAMES[place] == b) {
                    return i + 1;
                }
            }
            return 0;
        }
    }

    /** VOICES of a KNOT, and THE TRACE. */
    private static final class Voices {
        static final int BINDS = 0;
        static final int TIGHTENS = 1;
        static final int SLIPS = 2;
        static final int TELLS = 3;
        private static final int MOST_TRACED = 40;
        /** No VOICE goes so deep; it is the end of every one all the same. */
        private static final int MOST_DEEP = 20;
        /** Of each KIND the BODIES for binds, tightens, slips, tells; 0: it has none. */
        private static final int[] BODIES = {
            10, 11, 12, 13,
            20, 0, 0, 0,
            0, 30, 0, 0,
            0, 0, 40, 0,
            0, 0, 0, 50,
            0, 60, 0, 0,
            0, 0, 70, 71};

        final int[] bodies = new int[MOST_TRACED];
        int traced = 0;
        private int n = 0;
        private int m = 0;
        private int kind = 0;

        int speak(int number, Knot k, int act, int x) {
            traced = 0;
            n = number;
            m = k.m;
            kind = k.kind;
            return own(act, x, 0);
        }

        private static int bodyOf(int from, int act) {
            int at = from;
            for (int step = 0; step < BODIES.length && at >= 0; step++) {
                int place = 4 * at + act;
                if (place >= 0 && place < BODIES.length && BODIES[place] != 0) {
                    return BODIES[place];
                }
                at = Knot.above(at);
            }
            return 0;
        }

        private void note(int body) {
            if (traced < bodies.length) {
                bodies[traced] = body;
                traced++;
            }
        }

        private int own(int act, int x, int depth) {
            return run(bodyOf(kind, act), x, depth + 1);
        }

        private int above(int bodysKind, int act, int x, int depth) {
            return run(bodyOf(Knot.above(bodysKind), act), x, depth + 1);
        }

        private int run(int body, int x, int depth) {
            if (depth > MOST_DEEP) {
                return 0;
            }
            note(body);
            switch (body) {
                case 10:
                    return x + n;
                case 11:
                    return own(BINDS, x, depth) * 2;
                case 12:
                    return x - m;
                case 13:
                    return own(TIGHTENS, x, depth) ^ own(SLIPS, x, depth);
                case 20:
                    return above(Knot.BOW, BINDS, x, depth) * 3;
                case 30:
                    return above(Knot.SLIP, TIGHTENS, x, depth) - own(SLIPS, 1, depth);
                case 40:
                    return -above(Knot.LACE, SLIPS, x, depth);
                case 50:
                    return above(Knot.HITCH, TELLS, x, depth) - own(BINDS, 2, depth);
                case 60:
                    return above(Knot.LOOP, TIGHTENS, x + 1, depth);
                case 70:
                    return above(Knot.PARCEL, SLIPS, x, depth) ^ n;
                case 71:
                    return own(TIGHTENS, x, depth) - above(Knot.PARCEL, TELLS, x, depth);
                default:
                    return 0;
            }
        }
    }

    /** A row of numbers of 8, 16 or 32 bits. */
    private static final class Sheet {
        static final int MOST_NUMBERS = 40;

        /** 0: the SHEET is missing. */
        int bits = 0;
        int size = 0;
        final int[] numbers = new int[MOST_NUMBERS];

        void lay(int newBits, int newSize) {
            bits = newBits;
            size = newSize;
            for (int i = 0; i < numbers.length; i++) {
                numbers[i] = 0;
            }
        }

        /** As Java's byte, short and int have them, with their sign. */
        int lowestBits(int v) {
            if (bits == 8) {
                return (byte) v;
            }
            return bits == 16 ? (short) v : v;
        }

        boolean hasPart(int from, int n) {
            return n >= 0 && from >= 0 && n <= size && from <= size - n;
        }
    }
}
