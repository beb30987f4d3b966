/** Promise of every call: for any arguments in any state it answers, and an ERROR changes nothing but told(). */
public final class RobustTest {
    private static final int[] ODD = {0, 1, 2, 3, 4, 5, 6, 7, 8, 9, 10, 12, 16, 19, 20, 21, 23, 30, 31, 32, 40, 41, 43, 50,
        55, 60, 61, 65, 69, 70, 98, 99, 100, 198, 199, 255, 256, 999, 1000, 65536, -1, -2, -10, -100,
        Integer.MAX_VALUE, Integer.MAX_VALUE - 1, Integer.MIN_VALUE, Integer.MIN_VALUE + 1, 1 << 30, -(1 << 30)};
    private static final int OBJECTS = 400;
    private static final int CALLS = 2000;

    public static void main(String[] args) {
        long state = 42;
        long[] a = new long[5];
        int errors = 0;
        for (int object = 0; object < OBJECTS; object++) {
            CrossedKnots x = new CrossedKnots();
            for (int call = 0; call < CALLS; call++) {
                state = state * 6364136223846793005L + 1442695040888963407L;
                int drawn = (int) (state >>> 40);
                String name = CallTable.NAMES[drawn % CallTable.NAMES.length];
                for (int i = 0; i < a.length; i++) {
                    state = state * 6364136223846793005L + 1442695040888963407L;
                    int pick = (int) (state >>> 40);
                    a[i] = pick % 3 == 0 ? ODD[pick / 3 % ODD.length] : pick / 3 % 12;
                }
                errors += answers(x, name, a) ? 0 : 1;
            }
        }
        Due.due("calls that threw or were out of order", errors, 0);
        Due.end("RobustTest");
    }

    private static boolean answers(CrossedKnots x, String name, long[] a) {
        int before = allTold(x);
        String facts = before % 16 == 0 ? Due.facts(x) : null;
        try {
            int got = CallTable.onProgram(x, name, a);
            int more = allTold(x) - before;
            boolean anyNumber = name.equals("seed") || name.equals("voice") || name.equals("count");
            boolean error = got < Model.LOW && got >= Model.LOW - 5;
            if (!anyNumber && (got < Model.LOW - 5 || more != (error ? 1 : 0))) {
                System.out.println(CallTable.told(name, a) + " answered " + got + ", told " + more);
                return false;
            }
            if (more > 0 && facts != null && !facts.equals(Due.facts(x))) {
                System.out.println(CallTable.told(name, a) + " answered " + got + " and changed " + facts);
                return false;
            }
            return true;
        } catch (RuntimeException | StackOverflowError e) {
            System.out.println(CallTable.told(name, a) + " threw " + e);
            return false;
        }
    }

    private static int allTold(CrossedKnots x) {
        return x.told(1) + x.told(2) + x.told(3) + x.told(4) + x.told(5);
    }
}
