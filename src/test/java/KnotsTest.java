/** Promises 5 to 10: bind, undo, ofKnot, change, become, as. */
public final class KnotsTest {
    public static void main(String[] args) {
        bind();
        wrongBind();
        undo();
        undoHeld();
        undoByOthers();
        sixPeople();
        eases();
        change();
        becomeAndAs();
        Due.end("KnotsTest");
    }

    private static CrossedKnots house() {
        CrossedKnots x = new CrossedKnots();
        x.hand(0, 0, 30);
        x.hand(0, 1, 12);
        x.hand(1, 0, 15);
        x.hand(1, 1, 40);
        return x;
    }

    private static void bind() {
        CrossedKnots x = house();
        x.year(321);
        Due.due("bind(47, 10, -1)", x.bind(47, 10, -1), 0);
        int[] facts = {4, 7, 1, 0, 15 + 12, 321, -1, 1, 0, 12};
        for (int what = 0; what <= 9; what++) {
            Due.due("ofKnot(0, " + what + ")", x.ofKnot(0, what), facts[what]);
        }
        Due.due("bind(69, 1, 0)", x.bind(69, 1, 0), 1);
        Due.due("its kind", x.ofKnot(1, 0), 6);
        Due.due("its m", x.ofKnot(1, 1), 9);
        Due.due("its crossing", x.ofKnot(1, 4), 70);
        Due.due("its under", x.ofKnot(1, 6), 0);
        x.change(0, 2, 0);
        Due.due("under a loose one", x.bind(0, 23, 0), 2);
        x.change(2, 3, 55);
        x.hand(0, 0, 99);
        Due.due("the crossing stays", x.ofKnot(1, 4), 70);
        Due.due("count(1)", x.count(1), 3);
        Due.due("count(5)", x.count(5), 6);
    }

    private static void wrongBind() {
        CrossedKnots x = house();
        x.people(3);
        int[][] wrong = {{70, 1, -1}, {-1, 1, -1}, {0, 0, -1}, {0, 11, -1}, {0, 22, -1}, {0, 3, -1}, {0, 30, -1},
            {0, 100, -1}, {0, -1, -1}, {0, -10, -1}, {0, 1, 0}, {0, 1, -2}, {0, 1, Integer.MAX_VALUE},
            {Integer.MIN_VALUE, 1, -1}, {0, Integer.MIN_VALUE, -1}, {0, Integer.MAX_VALUE, -1}, {0, 9, -1}};
        x.hand(0, 2, 0);
        for (int[] w : wrong) {
            Due.due("bind(" + w[0] + ", " + w[1] + ", " + w[2] + ")", x.bind(w[0], w[1], w[2]), Due.BEYOND);
        }
        Due.due("ONE is gone", x.bind(0, 1, -1), Due.STATE);
        Due.due("OTHER is gone", x.bind(0, 10, -1), Due.STATE);
        Due.due("no knot yet", x.count(1), 0);
        for (int i = 0; i < 8; i++) {
            Due.due("bind " + i, x.bind(10 * (i % 7) + i, 12, i - 1), i);
        }
        Due.due("full", x.bind(0, 12, -1), Due.FULL);
        Due.due("full ahead of state", x.bind(0, 1, -1), Due.FULL);
        Due.due("beyond ahead of full", x.bind(0, 1, 8), Due.BEYOND);
        x.change(0, 2, 0);
        Due.due("full of loose ones too", x.bind(0, 12, 7), Due.FULL);
        Due.due("told(4)", x.told(4), 3);
        Due.due("told(3)", x.told(3), 2);
        Due.due("told(1)", x.told(1), wrong.length + 1);
    }

    private static void undo() {
        CrossedKnots x = house();
        x.bind(0, 1, -1);
        x.bind(0, 23, -1);
        Due.due("crossing 70", x.ofKnot(0, 4), 70);
        x.change(0, 0, 32);
        Due.due("misses by 5", x.can(0, 1, 0), 5);
        Due.due("the other way by 38", x.can(0, 10, 0), 38);
        Due.due("not the other way", x.undo(0, 10), Due.STATE);
        x.change(0, 0, 33);
        Due.due("misses by 6", x.undo(0, 1), Due.STATE);
        x.change(0, 0, 21);
        Due.due("misses by 6 below", x.undo(0, 1), Due.STATE);
        x.change(0, 0, 22);
        x.hand(1, 2, 0);
        Due.due("one is gone", x.undo(0, 1), Due.STATE);
        x.hand(1, 2, 1);
        Due.due("count(5) ahead", x.count(5), 3);
        Due.due("undone", x.undo(0, 1), 1);
        Due.due("count(5)", x.count(5), 2);
        Due.due("ofKnot tied", x.ofKnot(0, 7), 0);
        Due.due("not twice", x.undo(0, 1), Due.STATE);
        int[][] wrong = {{2, 1}, {-1, 1}, {0, 0}, {0, 11}, {0, 4}, {0, 40}, {0, -1}, {0, 100}};
        for (int[] w : wrong) {
            Due.due("undo(" + w[0] + ", " + w[1] + ")", x.undo(w[0], w[1]), Due.BEYOND);
        }
        Due.due("the last", x.undo(1, 32), 0);
    }

    private static void undoHeld() {
        CrossedKnots x = new CrossedKnots();
        x.bind(0, 1, -1);
        x.bind(0, 1, 0);
        x.bind(0, 1, 1);
        Due.due("held by 0", x.undo(1, 1), Due.STATE);
        Due.due("held by 1", x.undo(2, 1), Due.STATE);
        x.change(1, 2, 0);
        Due.due("under a loose one that is held", x.undo(2, 1), 1);
        x.change(1, 2, 1);
        Due.due("still held by 0", x.undo(1, 1), Due.STATE);
        Due.due("0 first", x.undo(0, 1), 1);
        Due.due("then 1", x.undo(1, 10), 0);
    }

    private static void undoByOthers() {
        CrossedKnots x = new CrossedKnots();
        x.bind(3, 1, -1);
        Due.due("others can not", x.undo(0, 23), Due.STATE);
        Due.due("one of them can not", x.undo(0, 12), Due.STATE);
        Due.due("text", Due.law(x, 1, "m=3&l=40&d=2"), 1);
        Due.due("not by that law", x.undo(0, 23), Due.STATE);
        x.change(0, 3, 40);
        x.hand(2, 1, 22);
        Due.due("others by law", x.can(0, 23, 1), 1);
        Due.due("d is what they miss", x.can(0, 32, 1), 0);
        x.hand(3, 2, 0);
        Due.due("others must be there", x.undo(0, 23), Due.STATE);
        x.hand(3, 2, 1);
        Due.due("undone by others", x.undo(0, 23), 0);
        x.change(0, 2, 1);
        Due.law(x, 1, "1");
        x.change(0, 0, 26);
        Due.due("not beyond EASE", x.can(0, 23, 1), 0);
        x.change(0, 0, 27);
        Due.due("at EASE", x.can(0, 23, 1), 1);
    }

    /** Each two of six, told as 10 times ONE, and OTHER. */
    private static void sixPeople() {
        for (int pair = 0; pair < 70; pair++) {
            CrossedKnots x = new CrossedKnots();
            x.people(6);
            for (int i = 0; i < 6; i++) {
                x.hand(i, 0, 10 + 13 * i);
                x.hand(i, 1, 90 - 5 * i);
            }
            int one = pair / 10;
            int other = pair % 10;
            boolean two = one < 6 && other < 6 && one != other;
            Due.due("bind by " + pair, x.bind(0, pair, -1), two ? 0 : Due.BEYOND);
            if (!two) {
                continue;
            }
            int pull = 90 - 5 * one + 10 + 13 * other;
            Due.due("CROSSING by " + pair, x.ofKnot(0, 4), 10 + 13 * one + 90 - 5 * other);
            x.change(0, 0, pull - 4);
            Due.due("MISSES of " + pair, x.can(0, pair, 0), 4);
            Due.due("CAN of " + pair, x.can(0, pair, 1), 1);
            Due.due("PAIR, MISSES of " + pair, x.pair(0, 1), 4);
            Due.due("PAIR is " + pair, x.pair(0, 0), pair);
            x.hand(one, 2, 0);
            Due.due("bind without ONE of " + pair, x.bind(0, pair, -1), Due.STATE);
            Due.due("undo without ONE of " + pair, x.undo(0, pair), Due.STATE);
            x.hand(one, 2, 1);
            x.hand(other, 2, 0);
            Due.due("bind without OTHER of " + pair, x.bind(0, pair, -1), Due.STATE);
            Due.due("undo without OTHER of " + pair, x.undo(0, pair), Due.STATE);
            x.hand(other, 2, 1);
            Due.due("undo by " + pair, x.undo(0, pair), 0);
        }
    }

    private static void eases() {
        CrossedKnots x = new CrossedKnots();
        x.year(100);
        x.bind(0, 1, -1);
        int[][] want = {
            {0, 0, 5}, {9, 99, 5},
            {10, 0, 5}, {19, 99, 14},
            {20, 0, 10}, {29, 99, 10},
            {30, 0, 5}, {34, 99, 1}, {35, 0, 5}, {39, 51, 1},
            {40, 0, 5}, {49, 0, 14}, {49, 9, 14}, {49, 10, 13}, {49, 99, 5}, {40, 59, 0}, {40, 60, 0}, {40, 99, 0},
            {50, 99, 10}, {60, 50, 5}, {69, 50, 1}, {69, 51, 0}, {60, 51, 0}, {60, 0, 5}};
        for (int[] w : want) {
            x.become(0, w[0]);
            x.change(0, 3, w[1]);
            Due.due("EASE of " + w[0] + " with " + w[1], x.ofKnot(0, 9), w[2]);
        }
        x.become(0, 53);
        x.year(999);
        Due.due("LOOP 899 years on", x.ofKnot(0, 9), 909);
        x.year(91);
        Due.due("LOOP 9 years back", x.ofKnot(0, 9), 1);
        x.year(90);
        Due.due("LOOP 10 years back", x.ofKnot(0, 9), 0);
        x.year(0);
        Due.due("LOOP 100 years back", x.ofKnot(0, 9), 0);
        int[][] wrong = {{1, 0}, {-1, 0}, {0, 10}, {0, -1}, {8, 9}};
        for (int[] w : wrong) {
            Due.due("ofKnot(" + w[0] + ", " + w[1] + ")", x.ofKnot(w[0], w[1]), Due.BEYOND);
        }
    }

    private static void change() {
        CrossedKnots x = new CrossedKnots();
        x.year(7);
        x.bind(0, 1, -1);
        Due.due("CROSSING", x.change(0, 0, 198), 30);
        Due.due("CROSSING again", x.change(0, 0, 0), 198);
        Due.due("YEAR", x.change(0, 1, 999), 7);
        Due.due("YEAR again", x.change(0, 1, 0), 999);
        Due.due("TIED", x.change(0, 2, 0), 1);
        Due.due("TIED again", x.change(0, 2, 1), 0);
        Due.due("LOAD", x.change(0, 3, 99), 0);
        Due.due("LOAD again", x.change(0, 3, 98), 99);
        int[] facts = {0, 0, 0, 1, 0, 0, -1, 1, 98, 5};
        int[][] wrong = {{1, 0, 0}, {-1, 0, 0}, {0, 4, 0}, {0, -1, 0}, {0, 0, 199}, {0, 0, -1}, {0, 1, 1000},
            {0, 1, -1}, {0, 2, 2}, {0, 2, -1}, {0, 3, 100}, {0, 3, -1}};
        for (int[] w : wrong) {
            Due.due("change(" + w[0] + ", " + w[1] + ", " + w[2] + ")", x.change(w[0], w[1], w[2]), Due.BEYOND);
        }
        for (int what = 0; what <= 9; what++) {
            Due.due("ofKnot(0, " + what + ") after changes", x.ofKnot(0, what), facts[what]);
        }
        Due.due("the house's year stays", x.count(2), 7);
    }

    private static void becomeAndAs() {
        CrossedKnots x = new CrossedKnots();
        x.bind(48, 1, -1);
        Due.due("become", x.become(0, 65), 4);
        Due.due("KIND", x.ofKnot(0, 0), 6);
        Due.due("m", x.ofKnot(0, 1), 5);
        Due.due("become beyond", x.become(0, 70), Due.BEYOND);
        Due.due("become below", x.become(0, -1), Due.BEYOND);
        Due.due("become of none", x.become(1, 0), Due.BEYOND);
        Due.due("become of -1", x.become(-1, 0), Due.BEYOND);
        int[] above = {0, 0, 0, 0, 1, 2, 3};
        for (int kind = 0; kind <= 6; kind++) {
            Due.due("become " + kind, x.become(0, 10 * kind + kind), kind == 0 ? 6 : kind - 1);
            for (int as = 0; as <= 6; as++) {
                boolean is = as == kind || as == above[kind] || as == 0;
                Due.due("kind " + kind + " as " + as, x.as(0, as), is ? kind : Due.KIND);
            }
        }
        Due.due("as(0, 7)", x.as(0, 7), Due.BEYOND);
        Due.due("as(0, -1)", x.as(0, -1), Due.BEYOND);
        Due.due("as(1, 0)", x.as(1, 0), Due.BEYOND);
        Due.due("as(-1, 0)", x.as(-1, 0), Due.BEYOND);
        Due.due("told(5)", x.told(5), 49 - 7 - 6 - 3);
    }
}
