/** Promises 17 to 29: what would be. */
public final class ThoughtTest {
    public static void main(String[] args) {
        then();
        can();
        last();
        open();
        openInOrder();
        pair();
        miss();
        keep();
        whose();
        holds();
        alike();
        waitFor();
        odds();
        fits();
        nothingIsChanged();
        Due.end("ThoughtTest");
    }

    private static void then() {
        CrossedKnots x = new CrossedKnots();
        x.hand(1, 2, 0);
        x.year(995);
        Due.law(x, 0, "v+k+(y=0)*10");
        Due.due("then(0)", x.then(0, 0, 0), 10);
        Due.due("then(5)", x.then(5, 0, 0), 10);
        Due.due("then(6), beyond 999", x.then(6, 0, 0), 20);
        Due.due("then(6), RIGHT", x.then(6, 0, 1), 36);
        Due.due("then(60)", x.then(60, 0, 0), 70);
        Due.due("then(60), held", x.then(60, 0, 1), 99);
        Due.due("of the gone one", x.then(60, 1, 1), 20);
        int[][] wrong = {{61, 0, 0}, {-1, 0, 0}, {0, 4, 0}, {0, -1, 0}, {0, 0, 2}, {0, 0, -1}};
        for (int[] w : wrong) {
            Due.due("then(" + w[0] + ", " + w[1] + ", " + w[2] + ")", x.then(w[0], w[1], w[2]), Due.BEYOND);
        }
        Due.due("count(2) stays", x.count(2), 995);
        Due.due("count(3) stays", x.count(3), 120);
    }

    private static void can() {
        CrossedKnots x = new CrossedKnots();
        x.hand(0, 1, 50);
        x.hand(1, 0, 3);
        x.bind(0, 1, -1);
        x.bind(0, 1, 0);
        Due.due("crossing", x.ofKnot(0, 4), 30);
        Due.due("misses above", x.can(0, 1, 0), 23);
        x.hand(0, 1, 20);
        Due.due("misses below", x.can(0, 1, 0), 7);
        Due.due("can not", x.can(0, 1, 1), 0);
        Due.due("the other way", x.can(0, 10, 0), 0);
        Due.due("can", x.can(0, 10, 1), 1);
        Due.due("others miss", x.can(0, 23, 0), 0);
        Due.due("others can not", x.can(0, 23, 1), 0);
        Due.due("held", x.can(1, 10, 1), 0);
        x.hand(0, 2, 0);
        Due.due("a gone one misses too", x.can(0, 10, 0), 0);
        Due.due("a gone one can not", x.can(0, 10, 1), 0);
        x.hand(0, 2, 1);
        x.change(0, 2, 0);
        Due.due("a loose one is missed too", x.can(0, 1, 0), 7);
        Due.due("a loose one can not be", x.can(0, 10, 1), 0);
        Due.due("held no more", x.can(1, 10, 1), 1);
        int[][] wrong = {{2, 1, 0}, {-1, 1, 0}, {0, 0, 0}, {0, 33, 0}, {0, 4, 0}, {0, 40, 0}, {0, -1, 0}, {0, 1, 2},
            {0, 1, -1}};
        for (int[] w : wrong) {
            Due.due("can(" + w[0] + ", " + w[1] + ", " + w[2] + ")", x.can(w[0], w[1], w[2]), Due.BEYOND);
        }
    }

    private static void last() {
        CrossedKnots x = new CrossedKnots();
        x.bind(0, 1, -1);
        x.bind(50, 1, 0);
        x.bind(0, 23, -1);
        Due.due("2 more a year, EASE 5", x.last(0), 2);
        Due.due("LOOP: 2n up to 10 + n, and held", x.last(1), 10);
        x.hand(0, 2, 0);
        Due.due("one is gone", x.last(0), Due.NONE);
        x.hand(0, 2, 1);
        x.change(2, 2, 0);
        Due.due("a loose one", x.last(2), Due.NONE);
        x.change(2, 2, 1);
        x.change(2, 0, 120);
        Due.due("only later", x.last(2), 47);
        x.change(2, 0, 25);
        Due.due("now alone", x.last(2), 0);
        x.change(2, 0, 120);
        x.hand(2, 1, 22);
        Due.due("the nearer way alone", x.last(2), 47);
        x.hand(2, 1, 97);
        Due.due("one of both ways is enough", x.last(2), 47);
        x.hand(2, 1, 20);
        Due.due("last(3)", x.last(3), Due.BEYOND);
        Due.due("last(-1)", x.last(-1), Due.BEYOND);
        Due.law(x, 0, "v");
        Due.due("for ever", x.last(0), 60);
        Due.due("never", x.last(2), Due.NONE);
        Due.law(x, 1, "1");
        x.change(0, 0, 50);
        x.hand(2, 0, 30);
        x.hand(3, 1, 20);
        Due.due("others don't count", x.last(0), Due.NONE);
        Due.due("told(2)", x.told(2), 4);
    }

    private static void open() {
        CrossedKnots x = new CrossedKnots();
        Due.due("without knots", x.open(0), 0);
        x.bind(0, 1, -1);
        x.bind(20, 12, 0);
        x.bind(19, 23, 1);
        x.bind(0, 23, -1);
        Due.due("open(0)", x.open(0), 15);
        Due.due("open(2)", x.open(2), 15);
        Due.due("open(3): 0 holds the others", x.open(3), 0);
        x.change(0, 2, 0);
        Due.due("open(3): 1 and 2", x.open(3), 6);
        Due.due("open(6): 1 holds 2", x.open(6), 0);
        x.change(1, 2, 0);
        Due.due("open(6): 2", x.open(6), 4);
        Due.due("open(60)", x.open(60), 0);
        x.hand(2, 2, 0);
        Due.due("one is gone", x.open(0), 0);
        Due.due("open(61)", x.open(61), Due.BEYOND);
        Due.due("open(-1)", x.open(-1), Due.BEYOND);
    }

    private static void openInOrder() {
        CrossedKnots x = new CrossedKnots();
        for (int i = 0; i < 8; i++) {
            x.bind(0, 1, i - 1);
        }
        Due.due("all, one by one", x.open(0), 255);
        x.change(4, 0, 99);
        Due.due("up to the fast one", x.open(0), 15);
        Due.law(x, 1, "d=0");
        x.hand(3, 0, 79);
        Due.due("others undo it", x.open(0), 255);
        x.hand(3, 2, 0);
        Due.due("but they are gone", x.open(0), 15);
    }

    private static void pair() {
        CrossedKnots x = new CrossedKnots();
        x.bind(0, 21, -1);
        x.bind(0, 21, 0);
        Due.due("the first of two ways", x.pair(1, 0), 12);
        Due.due("its misses", x.pair(1, 1), 0);
        x.hand(1, 1, 23);
        Due.due("the nearer way", x.pair(0, 0), 21);
        x.hand(2, 1, 18);
        Due.due("its misses then", x.pair(0, 1), 2);
        Due.law(x, 1, "1");
        Due.due("others are nearer", x.pair(0, 0), 1);
        Due.due("by 0", x.pair(0, 1), 0);
        x.hand(0, 2, 0);
        Due.due("31 is left", x.pair(0, 0), 31);
        x.change(0, 0, 36);
        Due.due("12 misses by 3", x.pair(0, 0), 12);
        Due.due("by 3", x.pair(0, 1), 3);
        x.change(0, 0, 60);
        Due.due("none", x.pair(0, 0), Due.NONE);
        Due.due("none misses", x.pair(0, 1), Due.NONE);
        x.change(1, 2, 0);
        Due.due("a loose one", x.pair(1, 0), Due.NONE);
        int[][] wrong = {{2, 0}, {-1, 0}, {0, 2}, {0, -1}};
        for (int[] w : wrong) {
            Due.due("pair(" + w[0] + ", " + w[1] + ")", x.pair(w[0], w[1]), Due.BEYOND);
        }
    }

    private static void miss() {
        CrossedKnots x = new CrossedKnots();
        Due.due("without knots, who", x.miss(0, 0), 0);
        Due.due("without knots, how many", x.miss(20, 1), 0);
        x.bind(0, 1, -1);
        x.bind(29, 12, -1);
        x.bind(29, 13, -1);
        x.bind(29, 23, 0);
        Due.due("1 is in three, and 0 holds one", x.miss(0, 0), 1);
        Due.due("none is left", x.miss(0, 1), 0);
        Due.due("behind 5 years", x.miss(5, 0), 1);
        Due.due("none is left then", x.miss(5, 1), 0);
        x.hand(1, 2, 0);
        Due.due("without 1 nothing is open", x.miss(5, 0), 0);
        x.change(0, 2, 0);
        Due.due("2 and 3 can", x.miss(5, 0), 2);
        Due.due("0 is left", x.miss(5, 1), 0);
        Due.due("not behind 6 years", x.miss(6, 0), 0);
        x.hand(0, 2, 0);
        Due.due("the least of those there", x.miss(6, 0), 2);
        x.hand(2, 2, 0);
        Due.due("one alone", x.miss(0, 0), 3);
        x.hand(3, 2, 0);
        Due.due("nobody", x.miss(0, 0), Due.NONE);
        Due.due("nobody, how many", x.miss(0, 1), Due.NONE);
        int[][] wrong = {{21, 0}, {-1, 0}, {0, 2}, {0, -1}};
        for (int[] w : wrong) {
            Due.due("miss(" + w[0] + ", " + w[1] + ")", x.miss(w[0], w[1]), Due.BEYOND);
        }
    }

    private static void keep() {
        CrossedKnots x = new CrossedKnots();
        x.people(6);
        Due.due("without knots", x.keep(), 0);
        x.bind(0, 45, -1);
        Due.due("4 and 5", x.keep(), 48);
        Due.law(x, 1, "1");
        Due.due("any two, the least", x.keep(), 3);
        Due.law(x, 1, "0");
        x.bind(0, 12, -1);
        Due.due("two twos", x.keep(), 48 + 6);
        x.bind(0, 25, 1);
        Due.due("no more for the third", x.keep(), 48 + 6);
        x.change(0, 2, 0);
        Due.due("three", x.keep(), 32 + 6);
        x.hand(1, 2, 0);
        Due.due("nothing is open then", x.keep(), 0);
        x.change(1, 2, 0);
        Due.due("2 and 5", x.keep(), 36);
        x.hand(2, 2, 0);
        Due.due("no 2", x.keep(), 0);
        sameNumberOtherKnots();
        keepIsOfNow();
    }

    private static void keepIsOfNow() {
        CrossedKnots x = new CrossedKnots();
        x.bind(0, 23, -1);
        x.change(0, 0, 25);
        Due.due("now 2 and 3 can", x.keep(), 12);
        x.change(0, 0, 36);
        Due.due("in a year they could", x.keep(), 0);
    }

    /** As many, not the same ones: 0 and 1 undo one, as 0 and 2 would. */
    private static void sameNumberOtherKnots() {
        CrossedKnots x = new CrossedKnots();
        x.people(3);
        x.bind(0, 12, -1);
        x.hand(0, 0, 50);
        x.bind(0, 1, -1);
        Due.due("only 12 is loose now", x.open(0), 3);
        x.change(1, 0, 198);
        Due.due("1 alone can't be", x.open(0), 1);
        Due.due("1 and 2", x.keep(), 6);
    }

    private static void whose() {
        CrossedKnots x = new CrossedKnots();
        Due.due("all twelve", x.whose(30, 0), 12);
        Due.due("the first", x.whose(30, 1), 1);
        x.hand(2, 0, 7);
        x.hand(1, 1, 0);
        x.hand(2, 2, 0);
        Due.due("2 and 1 only, though gone", x.whose(7, 0), 1);
        Due.due("21", x.whose(7, 1), 21);
        Due.due("0 and 3 with 1", x.whose(10, 0), 2);
        Due.due("01", x.whose(10, 1), 1);
        Due.due("none", x.whose(198, 0), 0);
        Due.due("no first", x.whose(198, 1), Due.NONE);
        x.hand(3, 0, 99);
        x.hand(0, 1, 99);
        Due.due("198", x.whose(198, 1), 30);
        x.hand(1, 0, 60);
        Due.due("none with oneself", x.whose(60, 0), 0);
        int[][] wrong = {{199, 0}, {-1, 0}, {0, 2}, {0, -1}};
        for (int[] w : wrong) {
            Due.due("whose(" + w[0] + ", " + w[1] + ")", x.whose(w[0], w[1]), Due.BEYOND);
        }
    }

    private static void holds() {
        CrossedKnots x = new CrossedKnots();
        int[] under = {-1, 0, 1, 0, 3, -1, 5, 4};
        for (int u : under) {
            x.bind(0, 1, u);
        }
        int[] wants = {2 + 4 + 8 + 16 + 128, 4, 0, 16 + 128, 128, 64, 0, 0};
        for (int i = 0; i < 8; i++) {
            Due.due("holds(" + i + ")", x.holds(i), wants[i]);
        }
        x.change(3, 2, 0);
        Due.due("a loose one holds nothing for 0", x.holds(0), 2 + 4);
        Due.due("what is under the loose one", x.holds(3), 16 + 128);
        x.change(7, 2, 0);
        Due.due("loose ones are not held", x.holds(3), 16);
        Due.due("holds(8)", x.holds(8), Due.BEYOND);
        Due.due("holds(-1)", x.holds(-1), Due.BEYOND);
    }

    private static void alike() {
        CrossedKnots x = new CrossedKnots();
        Due.due("none", x.alike(), 0);
        for (int i = 0; i < 8; i++) {
            x.bind(i, 1, -1);
            Due.due("alike of " + (i + 1), x.alike(), i * (i + 1) / 2);
        }
        x.change(7, 2, 0);
        Due.due("a loose one", x.alike(), 21);
        x.change(0, 0, 31);
        Due.due("another crossing", x.alike(), 15);
        x.change(1, 0, 31);
        Due.due("two and five", x.alike(), 11);
    }

    private static void waitFor() {
        CrossedKnots x = new CrossedKnots();
        x.bind(0, 1, -1);
        x.bind(0, 1, 0);
        Due.due("now", x.waitFor(0), 0);
        Due.due("now, though held", x.waitFor(1), 0);
        x.change(0, 0, 155);
        Due.due("30 + 2n is 150", x.waitFor(0), 60);
        x.change(0, 0, 156);
        Due.due("not by 60", x.waitFor(0), Due.NONE);
        x.change(0, 0, 100);
        Due.due("30 + 2n is 96", x.waitFor(0), 33);
        x.hand(2, 1, 80);
        Due.due("others not without a law", x.waitFor(0), 33);
        Due.law(x, 1, "d<5");
        Due.due("others by law", x.waitFor(0), 3);
        x.hand(2, 2, 0);
        Due.due("others are gone", x.waitFor(0), 33);
        x.hand(1, 2, 0);
        Due.due("others later, by law", x.waitFor(0), 33);
        x.hand(0, 2, 0);
        Due.due("one alone", x.waitFor(0), Due.NONE);
        x.hand(0, 2, 1);
        x.change(0, 2, 0);
        Due.due("a loose one", x.waitFor(0), Due.NONE);
        Due.due("waitFor(2)", x.waitFor(2), Due.BEYOND);
        Due.due("waitFor(-1)", x.waitFor(-1), Due.BEYOND);
    }

    private static void odds() {
        CrossedKnots x = new CrossedKnots();
        x.bind(0, 1, -1);
        x.bind(0, 1, 0);
        int[][] wants = {{30, 3, 10}, {31, 2, 5}, {32, 2, 5}, {33, 1, 2}, {25, 1, 10}, {24, 0, 1}, {40, 1, 2},
            {53, 1, 10}, {54, 0, 1}, {51, 1, 5}, {49, 3, 10}};
        for (int[] w : wants) {
            x.change(0, 0, w[0]);
            Due.due("odds of " + w[0] + " above", x.odds(0, 0), w[1]);
            Due.due("odds of " + w[0] + " below", x.odds(0, 1), w[2]);
        }
        Due.due("held is the same", x.odds(1, 0), 3);
        x.become(1, 50);
        Due.due("certain above", x.odds(1, 0), 1);
        Due.due("certain below", x.odds(1, 1), 1);
        x.hand(1, 2, 0);
        Due.due("gone above", x.odds(1, 0), 0);
        Due.due("gone below", x.odds(1, 1), 1);
        int[][] wrong = {{2, 0}, {-1, 0}, {0, 2}, {0, -1}};
        for (int[] w : wrong) {
            Due.due("odds(" + w[0] + ", " + w[1] + ")", x.odds(w[0], w[1]), Due.BEYOND);
        }
    }

    private static void fits() {
        CrossedKnots x = new CrossedKnots();
        x.sheet(0, 32, 3);
        Due.due("without knots", x.fits(0), 0);
        x.bind(0, 1, -1);
        x.bind(0, 12, -1);
        x.put(0, 0, 30);
        x.put(0, 1, 30);
        Due.due("two, the third too many", x.fits(0), 2);
        x.hand(1, 0, 70);
        Due.due("as it would be now", x.fits(0), 1);
        x.put(0, 1, 90);
        Due.due("two now", x.fits(0), 2);
        x.change(0, 0, 99);
        x.change(0, 2, 0);
        x.hand(0, 2, 0);
        Due.due("not as it was", x.fits(0), 2);
        x.put(0, 2, -1);
        Due.due("no knot has -1", x.fits(0), 2);
        x.put(0, 0, 31);
        Due.due("from the first on", x.fits(0), 0);
        x.sheet(1, 8, 1);
        x.put(1, 0, 30);
        Due.due("a short sheet", x.fits(1), 1);
        x.sheet(1, 8, 0);
        Due.due("an empty sheet", x.fits(1), 0);
        Due.due("a missing sheet", x.fits(2), Due.NONE);
        Due.due("fits(4)", x.fits(4), Due.BEYOND);
        Due.due("fits(-1)", x.fits(-1), Due.BEYOND);
    }

    private static void nothingIsChanged() {
        CrossedKnots x = new CrossedKnots();
        Due.law(x, 1, "1");
        x.year(990);
        x.bind(0, 1, -1);
        x.bind(51, 23, 0);
        x.hand(3, 2, 0);
        String before = Due.facts(x);
        x.then(60, 0, 0);
        x.can(0, 1, 1);
        x.last(0);
        x.open(60);
        x.pair(1, 0);
        x.miss(20, 0);
        x.keep();
        x.whose(30, 0);
        x.holds(0);
        x.alike();
        x.waitFor(1);
        x.odds(1, 0);
        x.check();
        Due.same("all is only thought", Due.facts(x), before);
    }
}
