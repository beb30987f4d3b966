/** Promises 38 to 43: image, restore, tell, check, count, told. */
public final class ImagesTest {
    public static void main(String[] args) {
        images();
        imageStays();
        otherKnots();
        notInTheImage();
        tellAndCheck();
        count();
        told();
        Due.end("ImagesTest");
    }

    private static void images() {
        CrossedKnots x = new CrossedKnots();
        Due.due("no image", x.restore(), Due.NONE);
        x.people(5);
        x.hand(4, 0, 88);
        x.hand(3, 2, 0);
        x.year(123);
        x.seed(-5);
        x.bind(43, 4, -1);
        x.bind(21, 10, 0);
        x.change(1, 2, 0);
        x.change(0, 3, 17);
        Due.law(x, 0, "v+2");
        Due.law(x, 1, "d<3");
        Due.feed(x, "v*7");
        x.tell(41);
        x.tell(42);
        String before = Due.facts(x);
        Due.due("image()", x.image(), 1);
        x.hand(4, 0, 1);
        x.hand(3, 2, 1);
        x.year(7);
        x.seed(8);
        x.undo(0, 4);
        x.become(0, 65);
        x.change(0, 0, 3);
        x.change(0, 1, 3);
        x.change(0, 3, 3);
        x.bind(0, 12, 1);
        x.check();
        x.tell(1);
        x.text(0);
        Due.law(x, 1, "0");
        Due.feed(x, "99");
        Due.due("restore()", x.restore(), 123);
        Due.same("all is as it was", Due.facts(x), before);
        Due.due("law 0", x.law(0, 10, 0, 0), 12);
        Due.due("law 1", x.law(1, 2, 0, 0), 1);
        Due.due("the tape", x.text(0), 1);
        Due.due("the tape's law", x.law(0, 10, 0, 0), 70);
        Due.due("what waits", x.check(), 1);
        Due.due("image() again", x.image(), 2);
    }

    private static void imageStays() {
        CrossedKnots x = new CrossedKnots();
        x.tell(128);
        x.image();
        Due.due("what waits is so", x.check(), 0);
        x.people(2);
        x.bind(0, 1, -1);
        x.years(5);
        Due.due("restore()", x.restore(), 0);
        Due.due("people", x.count(0), 4);
        Due.due("no knots", x.count(1), 0);
        Due.due("what waits is so again", x.check(), 0);
        x.tell(5);
        x.years(2);
        x.bind(35, 1, -1);
        Due.due("restore() again", x.restore(), 0);
        Due.due("one waits", x.count(7), 1);
        Due.due("what waits is so still", x.check(), 0);
        x.years(3);
        Due.due("in place of it", x.image(), 2);
        x.years(3);
        Due.due("the later image", x.restore(), 3);
        Due.due("its hands", x.count(3), 144);
        Due.due("without a law", x.law(0, 10, 0, 0), 11);
        Due.law(x, 0, "v");
        x.restore();
        Due.due("without a law again", x.law(0, 10, 0, 0), 11);
    }

    /** Each KNOT of an image may be another one in all it has. */
    private static void otherKnots() {
        CrossedKnots x = new CrossedKnots();
        x.people(6);
        x.image();
        x.bind(12, 1, -1);
        x.bind(34, 23, 0);
        x.bind(56, 45, -1);
        x.change(1, 3, 71);
        x.change(2, 3, 72);
        x.change(0, 2, 0);
        x.change(2, 0, 111);
        x.change(2, 1, 222);
        String first = Due.facts(x);
        x.restore();
        Due.due("no knots again", x.count(1), 0);
        Due.due("a new one", x.bind(65, 10, -1), 0);
        int[] facts = {6, 5, 1, 0, 30, 0, -1, 1, 0, 5};
        for (int what = 0; what <= 9; what++) {
            Due.due("the new one's " + what, x.ofKnot(0, what), facts[what]);
        }
        x.bind(43, 32, -1);
        Due.due("another new one's load", x.ofKnot(1, 8), 0);
        x.bind(21, 54, 1);
        x.change(1, 2, 0);
        x.change(2, 2, 0);
        String second = Due.facts(x);
        x.image();
        x.people(2);
        x.hand(5, 0, 33);
        x.change(0, 2, 0);
        x.change(1, 2, 1);
        x.change(2, 2, 1);
        x.become(0, 0);
        x.become(1, 0);
        x.become(2, 0);
        x.restore();
        Due.same("the second house", Due.facts(x), second);
        Due.due("the houses are unlike", first.equals(second) ? 1 : 0, 0);
    }

    private static void notInTheImage() {
        CrossedKnots x = new CrossedKnots();
        x.bind(0, 1, -1);
        x.sheet(0, 8, 1);
        x.voice(0, 0, 1);
        x.image();
        x.put(0, 0, 30);
        x.sheet(1, 32, 0);
        x.voice(0, 3, 1);
        x.people(9);
        x.restore();
        Due.due("the sheet stays", x.judge(0), -1);
        Due.due("the other sheet stays", x.judge(1), 0);
        Due.due("the trace stays", x.count(8), 4);
        Due.due("told stays", x.told(1), 1);
        Due.due("how often goes on", x.image(), 2);
    }

    private static void tellAndCheck() {
        CrossedKnots x = new CrossedKnots();
        Due.due("nothing waits", x.check(), 0);
        for (int i = 1; i <= 20; i++) {
            Due.due("tell", x.tell(120 + 8 * i), i);
        }
        Due.due("full", x.tell(1), Due.FULL);
        Due.due("20 wait", x.count(7), 20);
        Due.due("all are so", x.check(), 0);
        Due.due("none wait", x.count(7), 0);
        Due.due("the year stays", x.count(2), 0);
        x.hand(0, 2, 0);
        int[] told = {126, 132, 139, 144};
        for (int t : told) {
            x.tell(t);
        }
        Due.due("the third isn't", x.check(), 3);
        Due.due("none wait then", x.count(7), 0);
        x.tell(120);
        Due.due("not of now", x.check(), 1);
        x.tell(126);
        x.tell(Integer.MIN_VALUE);
        Due.due("any number", x.check(), 2);
    }

    private static void count() {
        CrossedKnots x = new CrossedKnots();
        x.people(6);
        x.hand(1, 2, 0);
        x.bind(0, 23, -1);
        x.bind(0, 23, -1);
        x.bind(0, 23, -1);
        x.undo(1, 23);
        x.year(44);
        x.feed(0, 7);
        x.tell(3);
        x.seed(-1000000002);
        x.voice(0, 1, 1);
        int[] wants = {6, 3, 44, 180, 61, 5, 7, 1, 2, -1000000002};
        for (int what = 0; what <= 9; what++) {
            Due.due("count(" + what + ")", x.count(what), wants[what]);
        }
        Due.due("z is no ERROR", x.told(2), 0);
        Due.due("count(10)", x.count(10), Due.BEYOND);
        Due.due("count(-1)", x.count(-1), Due.BEYOND);
    }

    private static void told() {
        CrossedKnots x = new CrossedKnots();
        Due.due("told(0)", x.told(0), Due.BEYOND);
        Due.due("told(6)", x.told(6), Due.BEYOND);
        Due.due("told(-1)", x.told(-1), Due.BEYOND);
        Due.due("counted, too", x.told(1), 3);
        x.restore();
        x.trace(0);
        x.sheet(0, 8, -1);
        x.sheet(0, 8, 1);
        x.sheet(1, 16, 1);
        x.move(0, 0, 1, 0, 1);
        for (int i = 0; i < 23; i++) {
            x.tell(i);
        }
        Due.due("told(1)", x.told(1), 3);
        Due.due("told(2)", x.told(2), 2);
        Due.due("told(3)", x.told(3), 1);
        Due.due("told(4)", x.told(4), 3);
        Due.due("told(5)", x.told(5), 1);
    }
}
