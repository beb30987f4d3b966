/** Promises 14 to 16 and 30: years, loose, year, seed. */
public final class YearsTest {
    public static void main(String[] args) {
        years();
        yearsByText();
        loose();
        wrongYears();
        year();
        Due.end("YearsTest");
    }

    private static void years() {
        CrossedKnots x = new CrossedKnots();
        x.people(3);
        x.hand(1, 2, 0);
        x.hand(2, 1, 98);
        Due.due("years(3)", x.years(3), 13 + 23 + 10 + 20 + 13 + 99);
        Due.due("the gone one's hand", x.ofPerson(1, 0), 10);
        Due.due("count(2)", x.count(2), 3);
        Due.due("count(3)", x.count(3), 178);
        Due.due("years(60)", x.years(60), 73 + 83 + 30 + 73 + 99);
        Due.due("years(60) again", x.years(60), 99 + 99 + 30 + 99 + 99);
        Due.due("year 123", x.count(2), 123);
    }

    private static void yearsByText() {
        CrossedKnots x = new CrossedKnots();
        x.people(2);
        x.hand(1, 2, 0);
        Due.law(x, 0, "v*2+k*30-y");
        x.year(18);
        Due.due("y is 8 for the first", x.years(1), 12 + 62 + 30);
        Due.due("y is 9 for the second", x.years(1), 15 + 99 + 30);
        Due.due("y is 0 for the third", x.years(1), 30 + 99 + 30);
        Due.law(x, 0, "v-20");
        Due.due("held at 0", x.years(2), 59 + 30);
        Due.due("LEFT is 0", x.ofPerson(0, 0), 0);
    }

    /** By the document's own words, in longs. */
    private static int[] draws(int seed, int n) {
        int[] draws = new int[n];
        long z = seed;
        for (int i = 0; i < n; i++) {
            z = (int) (z * 1103515245L + 12345L);
            draws[i] = (int) ((z & 0xffffffffL) >> 8);
        }
        return draws;
    }

    private static void loose() {
        for (int seed : new int[] {1, 5, -77, 0, Integer.MAX_VALUE, Integer.MIN_VALUE, 123456}) {
            for (int people = 2; people <= 6; people++) {
                CrossedKnots x = new CrossedKnots();
                x.people(people);
                Due.due("seed", x.seed(seed), 1);
                int there = (1 << people) - 1;
                int[] left = new int[people];
                for (int draw : draws(seed, 40)) {
                    if (draw % 5 == 0) {
                        there ^= 1 << draw / 8 % people;
                    }
                    for (int i = 0; i < people; i++) {
                        left[i] += there >> i & 1;
                    }
                }
                int sum = 0;
                for (int i = 0; i < people; i++) {
                    sum += 30 + 2 * left[i];
                }
                Due.due("loose(40) from " + seed + " with " + people, x.loose(40), sum);
                Due.due("who is there", x.count(4), there);
                Due.due("the year", x.count(2), 40);
            }
        }
        CrossedKnots x = new CrossedKnots();
        x.loose(1);
        Due.due("z after one draw", x.count(9), 1103515245 + 12345);
        Due.due("seed answers any number", x.seed(-1000000001), 1103527590);
        Due.due("seed answers what looks like an ERROR", x.seed(3), -1000000001);
        Due.due("which is none", x.told(1), 0);
    }

    private static void wrongYears() {
        CrossedKnots x = new CrossedKnots();
        for (int n : new int[] {0, -1, 61, Integer.MAX_VALUE, Integer.MIN_VALUE}) {
            Due.due("years(" + n + ")", x.years(n), Due.BEYOND);
        }
        for (int n : new int[] {0, -1, 41, Integer.MAX_VALUE, Integer.MIN_VALUE}) {
            Due.due("loose(" + n + ")", x.loose(n), Due.BEYOND);
        }
        x.year(940);
        Due.due("years(60) to 1000", x.years(60), Due.STATE);
        Due.due("years(61) is beyond first", x.years(61), Due.BEYOND);
        Due.due("nothing changed", x.count(3), 120);
        Due.due("nor z", x.count(9), 1);
        Due.due("years(59) to 999", x.years(59), 4 * (69 + 79));
        Due.due("year 999", x.count(2), 999);
        Due.due("years(1) to 1000", x.years(1), Due.STATE);
        Due.due("loose(1) to 1000", x.loose(1), Due.STATE);
        Due.due("loose(41) is beyond first", x.loose(41), Due.BEYOND);
        x.year(959);
        Due.due("loose(40) to 999", x.loose(40) > 0 ? 1 : 0, 1);
        Due.due("year 999 again", x.count(2), 999);
        x.year(960);
        Due.due("loose(40) to 1000", x.loose(40), Due.STATE);
    }

    private static void year() {
        CrossedKnots x = new CrossedKnots();
        Due.due("year(999)", x.year(999), 0);
        Due.due("year(0)", x.year(0), 999);
        Due.due("year(1000)", x.year(1000), Due.BEYOND);
        Due.due("year(-1)", x.year(-1), Due.BEYOND);
        Due.due("count(2)", x.count(2), 0);
        Due.due("hands stay", x.count(3), 120);
    }
}
