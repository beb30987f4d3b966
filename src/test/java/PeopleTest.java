/** Promises 1 to 4: a new object, people, hand, ofPerson. */
public final class PeopleTest {
    public static void main(String[] args) {
        newObject();
        people();
        hands();
        wrongHands();
        Due.end("PeopleTest");
    }

    private static void newObject() {
        CrossedKnots x = new CrossedKnots();
        int[] first = {4, 0, 0, 120, 15, 0, 0, 0, 0, 1};
        for (int what = 0; what < first.length; what++) {
            Due.due("new count(" + what + ")", x.count(what), first[what]);
        }
        for (int person = 0; person < 4; person++) {
            Due.due("new ofPerson 0", x.ofPerson(person, 0), 10);
            Due.due("new ofPerson 1", x.ofPerson(person, 1), 20);
            Due.due("new ofPerson 2", x.ofPerson(person, 2), 1);
        }
        Due.due("new law 0", x.law(0, 41, 0, 0), 42);
        Due.due("new law 1", x.law(1, 0, 9, 9), 0);
        for (int sheet = 0; sheet < 4; sheet++) {
            Due.due("new sheet is missing", x.judge(sheet), Due.NONE);
        }
        Due.due("new trace", x.trace(0), Due.NONE);
        Due.due("new restore", x.restore(), Due.NONE);
        int[] told = {0, 6, 0, 0, 0};
        for (int k = 1; k <= 5; k++) {
            Due.due("new told(" + k + ")", x.told(k), told[k - 1]);
        }
    }

    private static void people() {
        CrossedKnots x = new CrossedKnots();
        Due.due("people(1)", x.people(1), Due.BEYOND);
        Due.due("people(7)", x.people(7), Due.BEYOND);
        Due.due("people(-1)", x.people(-1), Due.BEYOND);
        Due.due("people(MIN)", x.people(Integer.MIN_VALUE), Due.BEYOND);
        Due.due("count(0) stays", x.count(0), 4);
        x.hand(0, 0, 77);
        x.hand(1, 1, 78);
        x.hand(2, 2, 0);
        x.year(12);
        Due.due("people(6)", x.people(6), 4);
        Due.due("people: as at first", x.count(3), 180);
        Due.due("people: all there", x.count(4), 63);
        Due.due("people: the year stays", x.count(2), 12);
        Due.due("people(2)", x.people(2), 6);
        Due.due("count(4) of two", x.count(4), 3);
        Due.due("count(3) of two", x.count(3), 60);
        x.hand(1, 0, 11);
        x.bind(0, 1, -1);
        Due.due("people(3) with a knot", x.people(3), Due.STATE);
        Due.due("people(9) with a knot", x.people(9), Due.BEYOND);
        Due.due("people: hand stays", x.ofPerson(1, 0), 11);
        x.undo(0, 1);
        x.change(0, 2, 0);
        Due.due("people(3) with a loose knot", x.people(3), Due.STATE);
        Due.due("count(0)", x.count(0), 2);
    }

    private static void hands() {
        CrossedKnots x = new CrossedKnots();
        Due.due("hand left", x.hand(0, 0, 0), 10);
        Due.due("hand left again", x.hand(0, 0, 99), 0);
        Due.due("hand right", x.hand(0, 1, 99), 20);
        Due.due("hand right again", x.hand(0, 1, 5), 99);
        Due.due("hand goes", x.hand(3, 2, 0), 1);
        Due.due("hand is gone", x.hand(3, 2, 0), 0);
        Due.due("ofPerson left", x.ofPerson(0, 0), 99);
        Due.due("ofPerson right", x.ofPerson(0, 1), 5);
        Due.due("ofPerson there", x.ofPerson(0, 2), 1);
        Due.due("ofPerson gone", x.ofPerson(3, 2), 0);
        Due.due("the gone one has hands", x.hand(3, 1, 44), 20);
        Due.due("count(4)", x.count(4), 7);
        Due.due("hand comes", x.hand(3, 2, 1), 0);
        Due.due("count(4) again", x.count(4), 15);
        Due.due("count(3)", x.count(3), 99 + 5 + 30 + 30 + 10 + 44);
    }

    private static void wrongHands() {
        CrossedKnots x = new CrossedKnots();
        String before = Due.facts(x);
        int[][] wrong = {{4, 0, 5}, {-1, 0, 5}, {0, 3, 1}, {0, -1, 1}, {0, 0, 100}, {0, 0, -1}, {0, 1, 100},
            {0, 1, -1}, {0, 2, 2}, {0, 2, -1}, {Integer.MIN_VALUE, 0, 0}, {Integer.MAX_VALUE, 0, 0}};
        for (int[] w : wrong) {
            Due.due("hand(" + w[0] + ", " + w[1] + ", " + w[2] + ")", x.hand(w[0], w[1], w[2]), Due.BEYOND);
        }
        int[][] none = {{4, 0}, {-1, 0}, {0, 3}, {0, -1}};
        for (int[] w : none) {
            Due.due("ofPerson(" + w[0] + ", " + w[1] + ")", x.ofPerson(w[0], w[1]), Due.BEYOND);
        }
        Due.same("wrong hands change nothing", Due.facts(x), before);
        Due.due("told(1)", x.told(1), wrong.length + none.length);
    }
}
