/** Answers that are due; each test ends with end(). */
final class Due {
    static final int BEYOND = -1000000001;
    static final int NONE = -1000000002;
    static final int STATE = -1000000003;
    static final int FULL = -1000000004;
    static final int KIND = -1000000005;

    private static int asked = 0;
    private static int wrong = 0;

    private Due() {
    }

    static void due(String call, long got, long want) {
        asked++;
        if (got != want) {
            wrong++;
            System.out.println(call + " answered " + got + ", due is " + want);
        }
    }

    /** Feeds a text to THE TAPE, by words of up to eight bytes. */
    static void feed(CrossedKnots x, String text) {
        for (int from = 0; from < text.length(); from += 8) {
            int n = Math.min(8, text.length() - from);
            long word = 0;
            for (int i = n - 1; i >= 0; i--) {
                word = word << 8 | text.charAt(from + i);
            }
            x.feed(word, n);
        }
    }

    /** Feeds a text and makes it the TEXT of a use. */
    static int law(CrossedKnots x, int use, String text) {
        feed(x, text);
        return x.text(use);
    }

    /** What count(0 .. 9) answer, to see that nothing was changed. */
    static String facts(CrossedKnots x) {
        StringBuilder all = new StringBuilder();
        for (int what = 0; what <= 9; what++) {
            all.append(x.count(what)).append(' ');
        }
        for (int person = 0; person < x.count(0); person++) {
            all.append(x.ofPerson(person, 0)).append(' ').append(x.ofPerson(person, 1)).append(' ');
        }
        for (int knot = 0; knot < x.count(1); knot++) {
            for (int what = 0; what <= 9; what++) {
                all.append(x.ofKnot(knot, what)).append(' ');
            }
        }
        return all.toString();
    }

    static void same(String what, String got, String want) {
        asked++;
        if (!got.equals(want)) {
            wrong++;
            System.out.println(what + ": " + got + ", due is " + want);
        }
    }

    static void end(String name) {
        System.out.println(name + ": " + asked + " answers, " + wrong + " not as due");
        if (wrong != 0 || asked == 0) {
            System.exit(1);
        }
    }
}
