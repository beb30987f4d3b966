/** Edges that the document names, promises 14 to 16: years, loose, year. */
public final class EdgesOfYearsTest {
    public static void main(String[] args) {
        Script.runAll(EdgesOfYearsTest.class);
    }

    /** Promise 14: "n (1 to 60) YEARS: all HANDS together." One, all sixty, and each between. */
    static void yearsOneToSixty() {
        Script.run("years 1 = 128; count 2 = 1; years 60 = 608; count 2 = 61; count 3 = 608");
        for (int n = 1; n <= 60; n++) {
            Script.run("years " + n + " = " + (120 + 8 * n) + "; count 2 = " + n);
        }
    }

    /** Promise 14: "BEYOND." 0 and 61; no YEAR goes by. */
    static void yearsBeyond() {
        Script.run("years 0 = BEYOND; years -1 = BEYOND; years 61 = BEYOND; years MIN = BEYOND; years MAX = BEYOND; count 2 = 0;"
            + "count 3 = 120; told 1 = 5");
    }

    /** Promise 14: "STATE: YEAR would be above 999." The last YEAR is reached, and none behind it. */
    static void yearsUpTo999() {
        Script.run("year 939; years 60 = 600; count 2 = 999; years 1 = STATE; years 60 = STATE; count 2 = 999; count 3 = 600");
        Script.run("year 940; years 60 = STATE; count 2 = 940; count 3 = 120; years 59 = 592; count 2 = 999; told 3 = 1");
        Script.run("year 998; years 2 = STATE; years 1 = 128; count 2 = 999; years 1 = STATE");
    }

    /** Promise 14: "BEYOND. STATE: YEAR would be above 999." In this order. */
    static void yearsErrorsInOrder() {
        Script.run("year 999; years 0 = BEYOND; years 61 = BEYOND; years MAX = BEYOND; years 60 = STATE; told 1 = 3; told 3 = 1");
    }

    /** Promise 14, by the Terms: "held within 0 to 99; without a TEXT v+1." A hand of 99 stays 99. */
    static void handsAreHeld() {
        Script.run("people 2; hand 0 0 99; hand 0 1 98; years 1 = 230; ofPerson 0 0 = 99; ofPerson 0 1 = 99; years 1 = 232;"
            + "years 60 = 352; years 60 = 396; years 60 = 396");
        Script.run("people 2; type v-15; text 0; years 1 = 10; ofPerson 0 0 = 0; ofPerson 0 1 = 5; years 1 = 0; years 1 = 0");
    }

    /** Promise 14, by the Terms: "HANDS change by a YEAR: LEFT becomes what the TEXT gives for LEFT, for 0, for the rest of YEAR by 10" */
    static void handsByTheText() {
        Script.run("people 2; type k*50+7; text 0; years 1 = 128; ofPerson 1 0 = 7; ofPerson 1 1 = 57");
        Script.run("people 2; type v*2+k; text 0; years 1 = 122; ofPerson 0 0 = 20; ofPerson 0 1 = 41");
    }

    /** Promise 14, by the Terms: "RIGHT what it gives for RIGHT, for 1, for that (YEAR ahead of being 1 more)" - from 9 to 0. */
    static void theRestOfTheYear() {
        Script.run("type y; text 0; years 1; ofPerson 0 0 = 0; ofPerson 0 1 = 0; years 1; ofPerson 0 0 = 1; ofPerson 0 1 = 1;"
            + "years 8; ofPerson 0 0 = 9; ofPerson 0 1 = 9; count 2 = 10; years 1; ofPerson 0 0 = 0; ofPerson 0 1 = 0;"
            + "year 109; years 1; ofPerson 0 0 = 9; years 1; ofPerson 0 0 = 0; year 998; years 1; ofPerson 0 0 = 8;"
            + "ofPerson 0 1 = 8");
    }

    /** Promise 14, by the Terms: "of those alone who are THERE." The YEAR goes on with nobody THERE, too. */
    static void thoseAloneWhoAreThere() {
        Script.run("hand 1 2 0; years 1 = 126; ofPerson 1 0 = 10; ofPerson 1 1 = 20; ofPerson 2 0 = 11; hand 1 2 1; years 1 = 134;"
            + "ofPerson 1 0 = 11");
        Script.run("people 2; hand 0 2 0; hand 1 2 0; years 60 = 60; count 2 = 60; count 3 = 60");
    }

    /** Draws by the document's words, in longs: what z is after n of them. */
    private static int drawn(int z, int n) {
        long now = z;
        for (int i = 0; i < n; i++) {
            now = (int) (now * 1103515245L + 12345L);
        }
        return (int) now;
    }

    private static int draw(int seed) {
        return (int) ((drawn(seed, 1) & 0xffffffffL) / 256);
    }

    /** Promise 15: "n (1 to 40) YEARS by draws: likewise." One and all forty; all HANDS together are answered. */
    static void looseOneToForty() {
        CrossedKnots x = Script.run("loose 1; count 2 = 1; count 9 = " + drawn(1, 1));
        Due.due("loose(40)", x.loose(40), x.count(3));
        Script.on(x, "count 2 = 41; count 9 = " + drawn(1, 41));
    }

    /** Promise 15: "BEYOND." 0 and 41; no draw is made, no YEAR goes by. */
    static void looseBeyond() {
        Script.run("loose 0 = BEYOND; loose -1 = BEYOND; loose 41 = BEYOND; loose 60 = BEYOND; loose MIN = BEYOND;"
            + "loose MAX = BEYOND; count 2 = 0; count 3 = 120; count 4 = 15; count 9 = 1; told 1 = 6");
    }

    /** Promise 15: "STATE: YEAR would be above 999." The last YEAR is reached; a refused call makes no draw. */
    static void looseUpTo999() {
        Script.run("year 959; loose 40; count 2 = 999; count 9 = " + drawn(1, 40) + "; loose 1 = STATE; count 9 = " + drawn(1, 40));
        Script.run("year 960; loose 40 = STATE; count 2 = 960; count 3 = 120; count 4 = 15; count 9 = 1; loose 39; count 2 = 999");
        Script.run("year 999; loose 1 = STATE; loose 0 = BEYOND; loose 41 = BEYOND; loose 40 = STATE; count 9 = 1");
    }

    /** Promise 15, by the Terms: "each makes it z * 1103515245 + 12345 (an int), and gives z >>> 8." It goes round. */
    static void drawsGoRound() {
        for (int seed : new int[] {0, 1, -1, Integer.MAX_VALUE, Integer.MIN_VALUE, 1 << 30}) {
            Script.run("seed " + seed + "; loose 1; count 9 = " + drawn(seed, 1) + "; loose 3; count 9 = " + drawn(seed, 4));
        }
    }

    /**
     * Promise 15, by the Terms: "Each: a draw: if its rest by 5 is 0, the one of PEOPLE that is the rest of an eighth of it (cut) by
     * how many there are is THERE, if it was not, and is not, if it was; then a YEAR." Draws with each rest, of z with and without a sign.
     */
    static void oneComesOrGoes() {
        int[] rests = new int[5];
        int[] signs = new int[2];
        for (int seed = -300; seed <= 300; seed += 7) {
            int draw = draw(seed);
            rests[draw % 5]++;
            signs[drawn(seed, 1) < 0 ? 1 : 0]++;
            for (int people = 2; people <= 6; people++) {
                int all = (1 << people) - 1;
                int moved = draw % 5 == 0 ? 1 << draw / 8 % people : 0;
                String start = "people " + people + "; seed " + seed + "; ";
                int stay = Integer.bitCount(all ^ moved);
                Script.run(start + "loose 1 = " + (30 * people + 2 * stay) + "; count 4 = " + (all ^ moved));
                StringBuilder gone = new StringBuilder();
                for (int i = 0; i < people; i++) {
                    gone.append("hand ").append(i).append(" 2 0; ");
                }
                Script.run(start + gone + "loose 1 = " + (30 * people + (moved == 0 ? 0 : 2)) + "; count 4 = " + moved);
            }
        }
        for (int rest : rests) {
            Due.due("draws of each rest were tried", rest > 0 ? 1 : 0, 1);
        }
        Due.due("z with and without a sign was tried", signs[0] > 0 && signs[1] > 0 ? 1 : 0, 1);
    }

    /** Promise 16: "YEAR becomes v: what it was." 0 to 999; HANDS and KNOTS stay. */
    static void yearZeroTo999() {
        Script.run("bind 0 1 -1; year -1 = BEYOND; year 1000 = BEYOND; count 2 = 0; year 999 = 0; count 2 = 999; year 1000 = BEYOND;"
            + "year 0 = 999; count 2 = 0; count 3 = 120; ofKnot 0 5 = 0");
    }

    /** Promise 16: "BEYOND." Far beyond, too. */
    static void yearFarBeyond() {
        Script.run("year 5; year MIN = BEYOND; year MAX = BEYOND; count 2 = 5; told 1 = 2");
    }
}
