/** Promises 31 to 37: voice, trace, sheet, put, move, loads, judge. */
public final class SheetsTest {
    public static void main(String[] args) {
        voices();
        wrongVoices();
        sheets();
        put();
        move();
        loads();
        judge();
        Due.end("SheetsTest");
    }

    private static void voices() {
        CrossedKnots x = new CrossedKnots();
        for (int i = 0; i < 8; i++) {
            x.bind(10 * Math.min(i, 6) + i, 1, -1);
        }
        // knot, act, x, answer, BODIES: each KIND has the number and the m that its knot has.
        int[][] said = {
            {0, 0, 5, 5, 10},
            {0, 1, 5, 10, 11, 10},
            {0, 2, 5, 5, 12},
            {0, 3, 5, 15, 13, 11, 10, 12},
            {1, 0, 5, 18, 20, 10},
            {1, 1, 5, 36, 11, 20, 10},
            {1, 3, 5, 36 ^ 4, 13, 11, 20, 10, 12},
            {2, 0, 5, 7, 10},
            {2, 1, 5, 14 - (1 - 2), 30, 11, 10, 12},
            {2, 3, 5, 15 ^ 3, 13, 30, 11, 10, 12, 12},
            {3, 2, 5, -2, 40, 12},
            {3, 1, 5, 16, 11, 10},
            {3, 3, 5, 16 ^ -2, 13, 11, 10, 40, 12},
            {4, 0, 5, 27, 20, 10},
            {4, 3, 5, (54 ^ 1) - 18, 50, 13, 11, 20, 10, 12, 20, 10},
            {5, 1, 5, 22 - (1 - 5), 60, 30, 11, 10, 12},
            {5, 3, 5, 26 ^ 0, 13, 60, 30, 11, 10, 12, 12},
            {6, 2, 5, 1 ^ 6, 70, 40, 12},
            {6, 1, 5, 22, 11, 10},
            {6, 3, 5, 22 - (22 ^ 7), 71, 11, 10, 13, 11, 10, 70, 40, 12},
            {7, 2, 5, 2 ^ 7, 70, 40, 12},
            {0, 0, Integer.MAX_VALUE, Integer.MAX_VALUE, 10},
            {7, 0, Integer.MAX_VALUE, Integer.MIN_VALUE + 6, 10},
            {7, 1, Integer.MAX_VALUE, 12, 11, 10}};
        for (int[] s : said) {
            String call = "voice(" + s[0] + ", " + s[1] + ", " + s[2] + ")";
            Due.due(call, x.voice(s[0], s[1], s[2]), s[3]);
            Due.due(call + " count(8)", x.count(8), s.length - 4);
            for (int i = 4; i < s.length; i++) {
                Due.due(call + " trace(" + (i - 4) + ")", x.trace(i - 4), s[i]);
            }
            Due.due(call + " end of the trace", x.trace(s.length - 4), Due.NONE);
        }
        Due.due("an answer that looks like an ERROR", x.voice(0, 0, Due.BEYOND), Due.BEYOND);
        Due.due("is none", x.told(1), 0);
    }

    private static void wrongVoices() {
        CrossedKnots x = new CrossedKnots();
        x.bind(3, 1, -1);
        x.voice(0, 3, 4);
        int[][] wrong = {{1, 0}, {-1, 0}, {0, 4}, {0, -1}};
        for (int[] w : wrong) {
            Due.due("voice(" + w[0] + ", " + w[1] + ")", x.voice(w[0], w[1], 1), Due.BEYOND);
        }
        Due.due("the trace stays", x.count(8), 4);
        Due.due("trace(0)", x.trace(0), 13);
        Due.due("trace(4)", x.trace(4), Due.NONE);
        Due.due("trace(-1)", x.trace(-1), Due.NONE);
        Due.due("trace(40)", x.trace(40), Due.NONE);
        Due.due("trace(MAX)", x.trace(Integer.MAX_VALUE), Due.NONE);
    }

    private static void sheets() {
        CrossedKnots x = new CrossedKnots();
        x.bind(0, 1, -1);
        int[][] wrong = {{4, 8, 1}, {-1, 8, 1}, {0, 7, 1}, {0, -8, 1}, {0, 64, 1}, {0, 24, 1}, {0, 8, 41},
            {0, 32, Integer.MAX_VALUE}, {4, 8, -1}, {0, 7, -1}, {4, 0, 0}};
        for (int[] w : wrong) {
            Due.due("sheet(" + w[0] + ", " + w[1] + ", " + w[2] + ")", x.sheet(w[0], w[1], w[2]), Due.BEYOND);
        }
        Due.due("below 0", x.sheet(0, 16, -1), Due.STATE);
        Due.due("far below 0", x.sheet(0, 32, Integer.MIN_VALUE), Due.STATE);
        Due.due("still missing", x.judge(0), Due.NONE);
        Due.due("missing, n doesn't matter", x.sheet(0, 0, -7), 1);
        Due.due("missing, n doesn't matter", x.sheet(0, 0, 99), 1);
        Due.due("40 numbers", x.sheet(3, 8, 40), 1);
        Due.due("number 39", x.put(3, 39, 1), 1);
        Due.due("number 40", x.put(3, 40, 1), Due.BEYOND);
        x.put(3, 0, 30);
        Due.due("laid", x.fits(3), 1);
        Due.due("an ERROR leaves it", x.sheet(3, 8, -1), Due.STATE);
        Due.due("as it was", x.fits(3), 1);
        Due.due("laid anew", x.sheet(3, 8, 1), 1);
        Due.due("does not fit", x.fits(3), 0);
        x.change(0, 0, 0);
        Due.due("all 0", x.judge(3), -1);
        x.change(0, 0, 30);
        Due.due("number 1", x.put(3, 1, 1), Due.BEYOND);
        Due.due("no numbers", x.sheet(3, 8, 0), 1);
        Due.due("number 0", x.put(3, 0, 1), Due.BEYOND);
        Due.due("laid longer", x.sheet(3, 8, 2), 1);
        Due.due("loads", x.loads(3), 1);
        Due.due("gone", x.sheet(3, 0, 0), 1);
        Due.due("is missing", x.put(3, 0, 0), Due.NONE);
    }

    private static void put() {
        CrossedKnots x = new CrossedKnots();
        x.bind(0, 1, -1);
        Due.due("no such sheet", x.put(4, 0, 0), Due.BEYOND);
        Due.due("no such sheet", x.put(-1, 0, 0), Due.BEYOND);
        Due.due("missing ahead of number", x.put(0, -1, 0), Due.NONE);
        x.sheet(0, 8, 1);
        x.sheet(1, 16, 1);
        x.sheet(2, 32, 1);
        Due.due("number -1", x.put(0, -1, 0), Due.BEYOND);
        Due.due("number 1", x.put(0, 1, 0), Due.BEYOND);
        int[][] kept = {{30, 1, 1, 1}, {256 + 30, 1, 0, 0}, {65536 + 30, 1, 1, 0}, {-226, 1, 0, 0}, {-65506, 1, 1, 0}};
        for (int[] k : kept) {
            for (int sheet = 0; sheet < 3; sheet++) {
                x.put(sheet, 0, k[0]);
                Due.due("put " + k[0] + " to " + sheet, x.fits(sheet), k[sheet + 1]);
            }
        }
        x.change(0, 0, 130);
        x.put(0, 0, 130);
        x.put(1, 0, 130);
        Due.due("8 bits have a sign", x.judge(0), 0);
        Due.due("16 bits hold it", x.judge(1), -1);
    }

    private static CrossedKnots row(int sheet, int bits, int... numbers) {
        CrossedKnots x = new CrossedKnots();
        for (int i = 0; i < numbers.length && i < 8; i++) {
            x.bind(0, 1, -1);
        }
        lay(x, sheet, bits, numbers);
        return x;
    }

    private static void lay(CrossedKnots x, int sheet, int bits, int... numbers) {
        x.sheet(sheet, bits, numbers.length);
        for (int i = 0; i < numbers.length; i++) {
            x.put(sheet, i, numbers[i]);
        }
    }

    /** Numbers of 0 to 99 are seen as LOADS. */
    private static void seen(String what, CrossedKnots x, int sheet, int... numbers) {
        Due.due(what + ", how many", x.loads(sheet), numbers.length);
        for (int i = 0; i < numbers.length; i++) {
            Due.due(what + ", number " + i, x.ofKnot(i, 8), numbers[i]);
        }
    }

    private static void move() {
        CrossedKnots x = row(0, 8, 1, 2, 3, 4, 5);
        Due.due("up, over itself", x.move(0, 0, 0, 1, 4), 4);
        seen("up", x, 0, 1, 1, 2, 3, 4);
        lay(x, 0, 8, 1, 2, 3, 4, 5);
        Due.due("down, over itself", x.move(0, 2, 0, 0, 3), 3);
        seen("down", x, 0, 3, 4, 5, 4, 5);
        lay(x, 1, 8, 9, 9);
        Due.due("to another", x.move(0, 1, 1, 0, 2), 2);
        seen("another", x, 1, 4, 5);
        seen("the one stays", x, 0, 3, 4, 5, 4, 5);
        Due.due("nothing", x.move(0, 5, 1, 2, 0), 0);
        Due.due("no such sheet", x.move(4, 0, 0, 0, 1), Due.BEYOND);
        Due.due("no such sheet", x.move(0, 0, -1, 0, 1), Due.BEYOND);
        Due.due("no such sheet ahead of missing", x.move(2, 0, 4, 0, 1), Due.BEYOND);
        Due.due("missing", x.move(2, 0, 0, 0, 1), Due.NONE);
        Due.due("missing", x.move(0, 0, 2, 0, 1), Due.NONE);
        Due.due("missing ahead of places", x.move(0, -1, 2, 0, 1), Due.NONE);
        lay(x, 3, 16, 7, 7);
        Due.due("unlike", x.move(0, 0, 3, 0, 1), Due.KIND);
        Due.due("unlike ahead of places", x.move(3, -1, 0, 0, 1), Due.KIND);
        int[][] wrong = {{0, 0, -1}, {-1, 0, 1}, {0, -1, 1}, {0, 0, 3}, {5, 0, 1}, {4, 0, 2}, {0, 2, 1}, {0, 1, 2},
            {6, 0, 0}, {0, 3, 0}, {Integer.MAX_VALUE, 0, 1}, {0, Integer.MAX_VALUE, 1}, {0, 0, Integer.MAX_VALUE},
            {1, 1, Integer.MAX_VALUE}, {Integer.MIN_VALUE, 0, 1}, {0, 0, Integer.MIN_VALUE}};
        for (int[] w : wrong) {
            Due.due("move from " + w[0] + " to " + w[1] + ", " + w[2], x.move(0, w[0], 1, w[1], w[2]), Due.BEYOND);
        }
        seen("wrong moves change nothing", x, 1, 4, 5);
    }

    private static void loads() {
        CrossedKnots x = row(0, 32, 0, 99, 5);
        Due.due("loads", x.loads(0), 3);
        Due.due("LOAD 1", x.ofKnot(1, 8), 99);
        lay(x, 1, 32, 7, 100, 9);
        Due.due("up to 100", x.loads(1), 1);
        Due.due("LOAD 0", x.ofKnot(0, 8), 7);
        Due.due("LOAD 1 stays", x.ofKnot(1, 8), 99);
        Due.due("LOAD 2 stays", x.ofKnot(2, 8), 5);
        lay(x, 1, 32, -1, 3);
        Due.due("up to -1", x.loads(1), 0);
        lay(x, 1, 8, 1, 2, 3, 4);
        Due.due("up to the last knot", x.loads(1), 3);
        lay(x, 1, 16, 50);
        Due.due("a short one", x.loads(1), 1);
        Due.due("LOAD 1 of before", x.ofKnot(1, 8), 2);
        Due.due("no such", x.loads(4), Due.BEYOND);
        Due.due("no such", x.loads(-1), Due.BEYOND);
        Due.due("missing", x.loads(2), Due.NONE);
        Due.due("no ERROR otherwise", x.told(1) + x.told(2) + x.told(3) + x.told(4) + x.told(5), 3);
    }

    private static void judge() {
        CrossedKnots x = row(0, 16, 30, 30, 30);
        Due.due("all are", x.judge(0), -1);
        x.hand(0, 0, 50);
        Due.due("as they were bound", x.judge(0), -1);
        x.change(1, 2, 0);
        Due.due("loose ones too", x.judge(0), -1);
        x.change(2, 0, 31);
        Due.due("the third isn't", x.judge(0), 2);
        x.change(0, 0, 31);
        Due.due("the first isn't", x.judge(0), 0);
        lay(x, 1, 16, 31, 30);
        Due.due("the third lacks", x.judge(1), 2);
        lay(x, 1, 16, 31, 30, 31, 0);
        Due.due("the fourth is too many", x.judge(1), 3);
        lay(x, 1, 16, 31, 29);
        Due.due("the second isn't", x.judge(1), 1);
        lay(x, 1, 16);
        Due.due("all lack", x.judge(1), 0);
        Due.due("no such", x.judge(4), Due.BEYOND);
        Due.due("no such", x.judge(-1), Due.BEYOND);
        Due.due("missing", x.judge(2), Due.NONE);
        CrossedKnots full = row(0, 32, 30, 30, 30, 30, 30, 30, 30, 30);
        Due.due("eight are", full.judge(0), -1);
        Due.due("eight fit", full.fits(0), 8);
        lay(full, 1, 32, 30, 30, 30, 30, 30, 30, 30, 30, 30);
        Due.due("nine are one too many", full.judge(1), 8);
        Due.due("eight of nine fit", full.fits(1), 8);
        Due.due("eight of nine are loads", full.loads(1), 8);
        full.sheet(2, 16, 40);
        Due.due("eight of forty are loads", full.loads(2), 8);
        CrossedKnots y = new CrossedKnots();
        y.sheet(0, 8, 0);
        Due.due("none of none", y.judge(0), -1);
        y.sheet(0, 8, 1);
        Due.due("one of none", y.judge(0), 0);
    }
}
