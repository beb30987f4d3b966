/** Promises 11 to 13: feed, text, law. */
public final class TextsTest {
    public static void main(String[] args) {
        feed();
        text();
        faults();
        worth();
        limits();
        wraps();
        Due.end("TextsTest");
    }

    private static void feed() {
        CrossedKnots x = new CrossedKnots();
        Due.due("feed 0", x.feed(0x31, 0), Due.BEYOND);
        Due.due("feed 9", x.feed(0x31, 9), Due.BEYOND);
        Due.due("feed -1", x.feed(0x31, -1), Due.BEYOND);
        Due.due("count(6)", x.count(6), 0);
        long word = 0;
        String eight = "1+2+3+4+";
        for (int i = 7; i >= 0; i--) {
            word = word << 8 | eight.charAt(i);
        }
        for (int i = 1; i <= 6; i++) {
            Due.due("feed 8", x.feed(word, 8), 8 * i);
        }
        Due.due("feed 3 more", x.feed(word, 3), Due.FULL);
        Due.due("feed 8 more", x.feed(word, 8), Due.FULL);
        Due.due("beyond ahead of full", x.feed(word, 9), Due.BEYOND);
        Due.due("count(6) stays", x.count(6), 48);
        Due.due("feed 2 more", x.feed('5' | 'x' << 8, 1), 49);
        Due.due("feed 1 more", x.feed('0', 1), 50);
        Due.due("feed yet 1 more", x.feed('0', 1), Due.FULL);
        Due.due("text of 50", x.text(0), 1);
        Due.due("worth of it", x.law(0, 0, 0, 0), 99);
        Due.due("a word with its sign", x.feed(-1L, 8), 8);
        Due.due("byte 255 is a fault", x.text(0), -10);
        Due.due("told(4)", x.told(4), 3);
    }

    private static void text() {
        CrossedKnots x = new CrossedKnots();
        Due.feed(x, "v*2");
        Due.due("text(2)", x.text(2), Due.BEYOND);
        Due.due("text(-1)", x.text(-1), Due.BEYOND);
        Due.due("the tape stays", x.count(6), 3);
        Due.due("text(0)", x.text(0), 1);
        Due.due("the tape is empty", x.count(6), 0);
        Due.due("law(0)", x.law(0, 21, 0, 0), 42);
        Due.due("law(1) is without", x.law(1, 21, 0, 0), 0);
        Due.due("in place of it", Due.law(x, 0, "k*10+y"), 1);
        Due.due("law(0) then", x.law(0, 21, 3, 4), 34);
        Due.due("a fault", Due.law(x, 0, "v+"), -12);
        Due.due("the tape is empty too", x.count(6), 0);
        Due.due("the one ahead stays", x.law(0, 21, 3, 4), 34);
        Due.due("an empty text", x.text(0), -10);
        Due.due("the one ahead stays still", x.law(0, 21, 3, 4), 34);
        Due.due("law(2)", x.law(2, 0, 0, 0), Due.BEYOND);
        Due.due("law(-1)", x.law(-1, 0, 0, 0), Due.BEYOND);
        Due.due("a fault is no ERROR", x.told(1), 4);
    }

    private static void faults() {
        String[] texts = {"x", "v", "v+", "vv", "v v", "v1", "1v", "12345", "1234", "00001", "()", "(v", "(v)", "(v))",
            ")", "1<2<3", "1<2=3", "(1<2)<3", "1<2&3>4|5=6", "v++1", "v-1", "-1", "!", "!!!!!v", "!!!!!!v", "(((((v)))))",
            "((((((v))))))", "!(!(!v))", "!(!(!(v)))", "d", "m", "l", "v&d", "y%", "y%%", "k|", "(1+(2*(3", "v/0",
            "!v!v", "(v)(v)", "(v)v", "1(", "v&&k", "v||k", "v==1", "V", "v+1\u0000", "\u00e9", "=1", "v<", "(v|k)&!y",
            "!!!!!+1", "(((((-1)))))", "!!!!!(v)", "!!!!(v)", "!!!!(!v)", "(v)*(!!!!!v)", "((((!v))))+!!!!!1"};
        int[] faults = {0, -1, 2, 1, 1, 1, 1, 4, -1, 4, 1, 2, -1, 3,
            0, 3, 3, -1, -1, 2, -1, 0, 1, -1, 5, -1,
            5, -1, 5, 0, 0, 0, 2, 2, 2, 2, 8, -1,
            2, 3, 3, 1, 2, 2, 2, 0, 3, 0, 0, 2, -1,
            5, 5, 5, -1, 5, 9, -1};
        Due.due("as many faults as texts", faults.length, texts.length);
        CrossedKnots x = new CrossedKnots();
        for (int i = 0; i < texts.length; i++) {
            Due.due("text " + texts[i], Due.law(x, 0, texts[i]), faults[i] < 0 ? 1 : -10 - faults[i]);
        }
        Due.due("after them all", Due.law(x, 0, "k-v*1"), 1);
        Due.due("its worth", x.law(0, 4, 50, 0), 46);
        x = new CrossedKnots();
        Due.due("names of use 1", Due.law(x, 1, "d+m*l"), 1);
        Due.due("v is none of use 1", Due.law(x, 1, "d+v"), -12);
        Due.due("k is none of use 1", Due.law(x, 1, "k"), -10);
        Due.due("y is none of use 1", Due.law(x, 1, "1<y"), -12);
    }

    private static void worth() {
        String[] texts = {"v", "k", "y", "v-k-y", "v+k*y", "(v+k)*y", "v/k", "v%k", "v/k*k", "20-v%k*2", "v/0", "v%0",
            "!v", "!0", "!!v", "v&0", "v&k", "0|0", "0|v", "1|0&0", "v<k", "k<v", "v=v", "v>k", "k>v", "v<k|k<v", "v<v", "v>v", "v=k",
            "1+1=2", "v=17&k=5", "0-3+v", "!v+7", "!(v-17)*9", "100/7/2", "100%7*2", "2*3%4", "99-10-9", "3<4*2", "0012",
            "(0-7)/2+10", "(0-7)%4+10", "(1<2)+(2<3)"};
        int[] wants = {17, 5, 3, 9, 32, 66, 3, 2, 15, 16, 0, 0,
            0, 1, 1, 0, 1, 0, 1, 1, 0, 1, 1, 1, 0, 1, 0, 0, 0,
            1, 1, 14, 7, 9, 7, 4, 2, 80, 1, 12,
            7, 7, 2};
        Due.due("as many answers as texts", wants.length, texts.length);
        for (int i = 0; i < texts.length; i++) {
            CrossedKnots x = new CrossedKnots();
            Due.due("text " + texts[i], Due.law(x, 0, texts[i]), 1);
            Due.due("worth of " + texts[i], x.law(0, 17, 5, 3), wants[i]);
        }
    }

    private static void limits() {
        CrossedKnots x = new CrossedKnots();
        Due.due("without: v + 1", x.law(0, 98, 0, 0), 99);
        Due.due("without: held above", x.law(0, 99, 0, 0), 99);
        Due.due("without: held below", x.law(0, -5, 0, 0), 0);
        Due.due("without: goes round", x.law(0, Integer.MAX_VALUE, 0, 0), 0);
        Due.due("without: use 1", x.law(1, 5, 5, 5), 0);
        Due.law(x, 0, "v");
        Due.due("held above", x.law(0, 100, 0, 0), 99);
        Due.due("not held", x.law(0, 99, 0, 0), 99);
        Due.due("held below", x.law(0, -1, 0, 0), 0);
        Due.law(x, 1, "d-m+l");
        Due.due("use 1 held above", x.law(1, 5, 1, 0), 1);
        Due.due("use 1 held below", x.law(1, 5, 9, 3), 0);
        Due.due("use 1 in order", x.law(1, 5, 6, 2), 1);
    }

    private static void wraps() {
        CrossedKnots x = new CrossedKnots();
        Due.law(x, 0, "v*v=k");
        Due.due("product goes round", x.law(0, 65537, 131073, 0), 1);
        Due.law(x, 0, "v+k<0");
        Due.due("sum goes round", x.law(0, Integer.MAX_VALUE, 1, 0), 1);
        Due.law(x, 0, "v-k>0");
        Due.due("difference goes round", x.law(0, Integer.MIN_VALUE, 1, 0), 1);
        Due.law(x, 0, "v/k=v");
        Due.due("quotient goes round", x.law(0, Integer.MIN_VALUE, -1, 0), 1);
        Due.law(x, 0, "v%k=0");
        Due.due("its rest", x.law(0, Integer.MIN_VALUE, -1, 0), 1);
        Due.law(x, 0, "v%k+50");
        Due.due("rest below 0", x.law(0, -17, 5, 0), 48);
        Due.due("rest by one below 0", x.law(0, 17, -5, 0), 52);
        Due.law(x, 0, "v/k+50");
        Due.due("cut toward 0", x.law(0, -17, 5, 0), 47);
    }
}
