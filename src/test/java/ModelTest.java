/** Runs of mixed calls, drawn the same each time, whose answers must be the model's. */
public final class ModelTest {
    private static final int RUNS = 500;
    /** What it is: "An object is used for at most 512 calls after it has been made". */
    private static final int CALLS = 512;
    /** The most calls that one new law takes, with the call behind it: 7 words, 2 texts. */
    private static final int CALLS_OF_A_LAW = 10;
    private static final String[] SHORT_LAWS = {"v+1", "v+k", "v-1", "v+2-k", "(v+y)%100", "v", "v*3%97", "99-v",
        "v+(y=3)*20", "v-(y>7)*40+k", "(v+37*k+y*y)%100"};
    private static final String[] STAND_INS = {"1", "d<3", "m>4", "l=0", "d=0|m=l", "!(d>4)&m<9", "d%2=0", "0"};
    private static final String SIGNS = "vkydml0123456789()!!((+-*/%<=>&|x ";

    private long state;
    private final CrossedKnots x = new CrossedKnots();
    private final Model y = new Model();
    private final StringBuilder told = new StringBuilder();
    private boolean lastWasError;
    private int made = 0;

    private ModelTest(int run) {
        state = 0x9E3779B97F4A7C15L * (run + 1);
    }

    public static void main(String[] args) {
        int answered = 0;
        int usual = 0;
        for (int run = 0; run < RUNS; run++) {
            ModelTest test = new ModelTest(run);
            while (test.made < CALLS) {
                if (!test.step(run)) {
                    System.exit(1);
                }
                answered++;
                usual += test.lastWasError ? 0 : 1;
            }
        }
        System.out.println("ModelTest: " + answered + " answers as due, " + usual + " of them no ERRORS");
        if (usual < answered / 2) {
            System.out.println("too many calls are answered by ERRORS for this test to say much");
            System.exit(1);
        }
        randomTexts();
    }

    private boolean step(int run) {
        String name = drawName();
        long[] a = arguments(name);
        made++;
        int got = CallTable.onProgram(x, name, a);
        int want = CallTable.onModel(y, name, a);
        lastWasError = want < Model.LOW && !name.equals("seed") && !name.equals("voice");
        told.append(CallTable.told(name, a)).append(" -> ").append(want).append('\n');
        if (got != want) {
            System.out.print(told);
            System.out.println("run " + run + ", call " + made + ": " + CallTable.told(name, a) + " answered " + got
                + ", due is " + want);
            return false;
        }
        return true;
    }

    /** FAULTS and values of texts that are drawn sign by sign, or mended ones. */
    private static void randomTexts() {
        int texts = 3000;
        int whole = 0;
        for (int i = 0; i < texts; i++) {
            ModelTest t = new ModelTest(100000 + i);
            int use = t.below(2);
            String s = t.below(4) == 0 ? t.drawnSigns(1 + t.below(10)) : t.drawnText(use, 1 + t.below(30));
            Due.feed(t.x, s);
            for (int k = 0; k < s.length(); k++) {
                t.y.feed(s.charAt(k), 1);
            }
            int want = t.y.text(use);
            Due.due("text " + s, t.x.text(use), want);
            whole += want == 1 ? 1 : 0;
            for (int k = 0; k < 3; k++) {
                int a = t.anyInt();
                int b = t.anyInt();
                int c = t.below(10);
                Due.due("law of " + s + " with " + a + " " + b + " " + c, t.x.law(use, a, b, c), t.y.law(use, a, b, c));
            }
        }
        Due.due("enough whole texts", whole > texts / 4 ? 1 : 0, 1);
        Due.due("enough faults", texts - whole > texts / 4 ? 1 : 0, 1);
        Due.end("ModelTest, texts");
    }

    private int next() {
        state = state * 6364136223846793005L + 1442695040888963407L;
        return (int) (state >>> 33);
    }

    private int below(int n) {
        return (next() & Integer.MAX_VALUE) % n;
    }

    private int anyInt() {
        switch (below(4)) {
            case 0: return next() << 1;
            case 1: return below(200) - 100;
            case 2: return Integer.MIN_VALUE + below(3) - 1;
            default: return below(10);
        }
    }

    /** Mostly from 0 to n - 1, at times just or far outside. */
    private int near(int n) {
        int kind = below(40);
        if (kind == 0) {
            return -1 - below(2);
        }
        if (kind == 1) {
            return n + below(2);
        }
        if (kind == 2 && below(3) == 0) {
            return anyInt();
        }
        return n <= 0 ? 0 : below(n);
    }

    private int nearKnot() {
        return near(y.count(1));
    }

    private int nearPair() {
        int n = y.count(0);
        int one = below(n);
        int other = (one + 1 + below(n - 1)) % n;
        return below(30) == 0 ? anyInt() : below(20) == 0 ? below(70) : 10 * one + other;
    }

    private String drawnSigns(int n) {
        StringBuilder s = new StringBuilder();
        for (int i = 0; i < n; i++) {
            s.append(SIGNS.charAt(below(SIGNS.length())));
        }
        return s.toString();
    }

    /** A text that is mostly whole; at times one sign is then put in, taken out or put for another. */
    private String drawnText(int use, int n) {
        String s = grown(use, n);
        if (below(2) == 0 && !s.isEmpty()) {
            int at = below(s.length());
            String sign = drawnSigns(1);
            int how = below(3);
            s = s.substring(0, at) + (how == 0 ? "" : sign) + s.substring(how == 2 ? at : at + 1);
        }
        return s.length() > 50 ? s.substring(0, 50) : s;
    }

    private String grown(int use, int room) {
        int kind = room <= 2 ? 0 : below(7);
        if (kind == 0) {
            String names = use == 0 ? "vky" : "dml";
            return below(2) == 0 ? "" + names.charAt(below(3)) : "" + below(below(2) == 0 ? 10 : 10000);
        }
        if (kind == 1) {
            return "!" + grown(use, room / 2);
        }
        if (kind == 2) {
            return "(" + grown(use, room - 2) + ")";
        }
        int left = 1 + below(room - 2);
        return grown(use, left) + "|&<=>+-*/%+*".charAt(below(12)) + grown(use, room - left - 1);
    }

    /** Knots are bound more often while there are few, and hands moved more often than worn out. */
    private String drawName() {
        if (y.count(1) < 3 + below(6) && below(4) == 0) {
            return "bind";
        }
        if (below(12) == 0 && made + CALLS_OF_A_LAW <= CALLS) {
            feedLaw();
        }
        String name = CallTable.NAMES[below(CallTable.NAMES.length)];
        boolean wearsOut = name.equals("years") || name.equals("loose") || name.equals("people");
        return wearsOut && below(3) != 0 ? "hand" : name;
    }

    private void feedLaw() {
        int use = below(2);
        String s = use == 0 ? SHORT_LAWS[below(SHORT_LAWS.length)] : STAND_INS[below(STAND_INS.length)];
        if (below(6) == 0) {
            s = drawnText(use, 1 + below(14));
        }
        if (y.tape.length() + s.length() > 50 || !y.tape.isEmpty()) {
            Due.due("text", x.text(use), y.text(use));
            made++;
        }
        Due.feed(x, s);
        made += (s.length() + 7) / 8 + 1;
        for (int i = 0; i < s.length(); i++) {
            y.feed(s.charAt(i), 1);
        }
        told.append("text ").append(s).append(" of ").append(use).append('\n');
        Due.due("text " + s, x.text(use), y.text(use));
    }

    private long[] arguments(String name) {
        switch (name) {
            case "people": return of(near(8));
            case "hand": return handArguments();
            case "ofPerson": return of(near(y.count(0)), near(3));
            case "bind": return of(near(70), nearPair(), below(2) == 0 ? -1 : nearKnot());
            case "undo": return of(nearKnot(), likelyPair());
            case "ofKnot": return of(nearKnot(), near(10));
            case "change": return changeArguments();
            case "become": return of(nearKnot(), near(70));
            case "as": return of(nearKnot(), near(7));
            case "feed": return new long[] {anyWord(), near(9)};
            case "text": return of(near(2));
            case "law": return of(near(2), anyInt(), anyInt(), anyInt());
            case "years": return of(1 + near(below(6) == 0 ? 60 : 5));
            case "loose": return of(1 + near(below(6) == 0 ? 40 : 8));
            case "year": return of(near(below(3) == 0 ? 1000 : 80));
            case "then": return of(near(61), near(y.count(0)), near(2));
            case "can": return of(nearKnot(), likelyPair(), near(2));
            case "open": return of(near(below(2) == 0 ? 61 : 8));
            case "miss": return of(near(21), near(2));
            case "whose": return of(below(2) == 0 ? likelyCrossing() : near(199), near(2));
            case "pair": case "odds": return of(nearKnot(), near(2));
            case "last": case "holds": case "waitFor": return of(nearKnot());
            default: return lateArguments(name);
        }
    }

    private long[] lateArguments(String name) {
        switch (name) {
            case "fits": case "loads": case "judge": return of(near(4));
            case "seed": return of(anyInt());
            case "voice": return of(nearKnot(), near(4), anyInt());
            case "trace": return of(near(9));
            case "sheet": return of(near(4), anyBits(), near(below(2) == 0 ? 41 : 9));
            case "put": return putArguments();
            case "move": return of(near(4), near(6), near(4), near(6), near(5));
            case "tell": return of(below(8) == 0 ? anyInt() : nextTogether());
            case "count": return of(near(10));
            case "told": return of(1 + near(5));
            default: return of();
        }
    }

    private int anyBits() {
        int kind = below(16);
        return kind == 0 ? anyInt() : kind == 1 ? 0 : 8 << below(3);
    }

    private int likelyCrossing() {
        int one = below(y.people.size());
        int other = below(y.people.size());
        return y.people.get(one).left + y.people.get(other).right;
    }

    private long[] handArguments() {
        int what = near(3);
        return of(near(y.count(0)), what, what == 2 ? near(2) : near(below(2) == 0 ? 100 : 25));
    }

    private long[] changeArguments() {
        int what = near(4);
        int[] ends = {below(2) == 0 ? 199 : 60, below(2) == 0 ? 1000 : 60, 2, 100};
        return of(nearKnot(), what, near(what >= 0 && what < 4 ? ends[what] : 5));
    }

    /** Those who bound the knot, half of the time. */
    private int likelyPair() {
        if (y.knots.isEmpty() || below(2) == 0) {
            return nearPair();
        }
        Model.Knot k = y.knots.get(below(y.knots.size()));
        return below(2) == 0 ? 10 * k.one + k.other : 10 * k.other + k.one;
    }

    private long[] putArguments() {
        int sheet = near(4);
        int i = near(8);
        boolean fit = i >= 0 && i < y.knots.size() && below(2) == 0;
        int v = fit ? y.knots.get(i).crossing + 256 * below(2) : near(below(2) == 0 ? 100 : 200);
        return of(sheet, i, v);
    }

    private int nextTogether() {
        return y.togetherBehind(y.waiting.size() + 1);
    }

    private long anyWord() {
        long word = 0;
        for (int i = 0; i < 8; i++) {
            word = word << 8 | (below(10) == 0 ? below(256) : SIGNS.charAt(below(SIGNS.length())));
        }
        return word;
    }

    private static long[] of(int... values) {
        long[] all = new long[5];
        for (int i = 0; i < values.length; i++) {
            all[i] = values[i];
        }
        return all;
    }
}
