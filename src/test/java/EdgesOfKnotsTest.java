/** Edges that the document names, promises 5 to 10: bind, undo, ofKnot, change, become, as. */
public final class EdgesOfKnotsTest {
    private static final String EIGHT = "bind 0 1 -1; ".repeat(8);

    public static void main(String[] args) {
        Script.runAll(EdgesOfKnotsTest.class);
    }

    /** Promise 5: "A KNOT (km: 10 times the KIND, and m)" - km is 0 to 69. */
    static void bindKinds() {
        Script.run("bind -1 1 -1 = BEYOND; bind 70 1 -1 = BEYOND; bind MIN 1 -1 = BEYOND; bind MAX 1 -1 = BEYOND;"
            + "count 1 = 0; bind 0 1 -1 = 0; ofKnot 0 0 = 0; ofKnot 0 1 = 0; bind 9 1 -1 = 1; ofKnot 1 0 = 0; ofKnot 1 1 = 9;"
            + "bind 10 1 -1 = 2; ofKnot 2 0 = 1; ofKnot 2 1 = 0; bind 69 1 -1 = 3; ofKnot 3 0 = 6; ofKnot 3 1 = 9");
    }

    /** Promise 5: "is BOUND by two (pair: 10 times ONE, and OTHER)" "BEYOND: also one and the same." Each pair, with each number of PEOPLE. */
    static void bindPairs() {
        for (int people = 2; people <= 6; people++) {
            CrossedKnots x = Script.run("people " + people + "; image");
            for (int pair = 0; pair < 100; pair++) {
                int one = pair / 10;
                int other = pair % 10;
                boolean two = one < people && other < people && one != other;
                Script.on(x, "bind 0 " + pair + " -1 = " + (two ? "0" : "BEYOND") + "; count 1 = " + (two ? 1 : 0)
                    + (two ? "; ofKnot 0 2 = " + one + "; ofKnot 0 3 = " + other + "; restore" : ""));
            }
        }
        Script.run("bind 0 -1 -1 = BEYOND; bind 0 -10 -1 = BEYOND; bind 0 -12 -1 = BEYOND; bind 0 100 -1 = BEYOND;"
            + "bind 0 101 -1 = BEYOND; bind 0 MIN -1 = BEYOND; bind 0 MAX -1 = BEYOND; count 1 = 0; told 1 = 7");
    }

    /** Promise 5: "UNDER another one that there is (-1: none): its number." */
    static void bindUnder() {
        Script.run("bind 0 1 0 = BEYOND; bind 0 1 -2 = BEYOND; bind 0 1 -1 = 0; bind 0 1 1 = BEYOND; bind 0 1 0 = 1;"
            + "bind 0 1 1 = 2; bind 0 1 3 = BEYOND; bind 0 1 MAX = BEYOND; bind 0 1 MIN = BEYOND; ofKnot 0 6 = -1;"
            + "ofKnot 1 6 = 0; ofKnot 2 6 = 1; count 1 = 3");
        Script.run("bind 0 1 -1; ".repeat(7) + "bind 0 1 7 = BEYOND; bind 0 1 6 = 7; ofKnot 7 6 = 6");
    }

    /** Promise 5: "UNDER another one that there is" - TIED or not. */
    static void bindUnderALooseOne() {
        Script.run("bind 0 1 -1; undo 0 1 = 0; bind 0 1 0 = 1; ofKnot 1 6 = 0; undo 1 1 = 0");
    }

    /** Promise 5: "FULL." By the Terms there are at most 8; a loose one takes its place, too. */
    static void bindNine() {
        for (int n = 0; n < 8; n++) {
            Script.run("bind 0 1 -1; ".repeat(n) + "count 1 = " + n + "; bind 0 1 -1 = " + n + "; count 1 = " + (n + 1));
        }
        Script.run(EIGHT + "bind 0 1 -1 = FULL; count 1 = 8; count 5 = 255; undo 7 1 = 7; bind 0 1 -1 = FULL;"
            + "bind 69 32 7 = FULL; count 1 = 8; ofKnot 8 0 = BEYOND; told 4 = 3");
    }

    /** Promise 5: "BEYOND: also one and the same. FULL. STATE: one is not THERE." In this order. */
    static void bindErrorsInOrder() {
        Script.run(EIGHT + "hand 0 2 0; bind 70 1 -1 = BEYOND; bind 0 0 -1 = BEYOND; bind 0 4 -1 = BEYOND;"
            + "bind 0 1 8 = BEYOND; bind 0 1 -2 = BEYOND; bind 0 1 7 = FULL; bind 0 23 -1 = FULL");
        Script.run("hand 0 2 0; bind 70 1 -1 = BEYOND; bind 0 0 -1 = BEYOND; bind 0 1 0 = BEYOND; bind 0 1 -1 = STATE");
    }

    /** Promise 5: "STATE: one is not THERE." ONE, OTHER, both. */
    static void bindByOneWhoIsGone() {
        Script.run("hand 1 2 0; bind 0 1 -1 = STATE; bind 0 10 -1 = STATE; bind 0 2 -1 = 0; hand 2 2 0; bind 0 12 -1 = STATE;"
            + "bind 0 21 -1 = STATE; bind 0 3 -1 = 1; hand 1 2 1; bind 0 1 -1 = 2; bind 0 12 -1 = STATE; told 3 = 5");
    }

    /** Promise 5, by the Terms: "A KNOT is BOUND by ONE and OTHER: its CROSSING is LEFT of ONE and RIGHT of OTHER, together, as they are then." 0 and 198. */
    static void bindCrossings() {
        Script.run("hand 0 0 0; hand 1 1 0; bind 0 1 -1; bind 0 10 -1; ofKnot 0 4 = 0; ofKnot 1 4 = 30; hand 0 0 99;"
            + "hand 1 1 99; bind 0 1 -1; ofKnot 2 4 = 198; ofKnot 0 4 = 0; hand 0 0 5; ofKnot 2 4 = 198");
    }

    /** Promise 5, by the Terms: "YEAR (0 to 999; 0 at first)." A KNOT is BOUND in the first and in the last. */
    static void bindInTheLastYear() {
        Script.run("bind 0 1 -1; year 999; bind 0 1 -1; ofKnot 0 5 = 0; ofKnot 1 5 = 999");
    }

    /** Promise 5, by the Terms: "TIED or not, and LOAD (0 to 99; 0 at first)." Whatever had its number before. */
    static void bindAnew() {
        Script.run("image; year 9; bind 69 23 -1; bind 69 32 0; change 0 3 99; change 1 3 98; change 0 2 0; change 1 2 0;"
            + "restore = 0; bind 1 1 -1 = 0; bind 2 10 -1 = 1; ofKnot 0 8 = 0; ofKnot 1 8 = 0; ofKnot 0 7 = 1; ofKnot 1 7 = 1;"
            + "ofKnot 1 0 = 0; ofKnot 1 1 = 2; ofKnot 1 2 = 1; ofKnot 1 3 = 0; ofKnot 1 5 = 0; ofKnot 1 6 = -1; count 5 = 3");
    }

    /** Promise 5, by the Terms: "KNOTS 0, 1, .. (at most 8)" - their numbers in the order in which they were BOUND. */
    static void bindInOrder() {
        Script.run("bind 0 1 -1 = 0; bind 0 1 -1 = 1; undo 0 1; bind 0 1 -1 = 2; bind 70 1 -1 = BEYOND; bind 0 1 -1 = 3; bind 0 1 -1 = 4;"
            + "bind 0 1 -1 = 5; bind 0 1 -1 = 6; bind 0 1 -1 = 7; bind 0 1 -1 = FULL");
    }

    /**
     * Promise 5, by the Terms: "with a number m (0 to 9), two by whom it was bound (ONE and OTHER), a CROSSING (0 to 199), the YEAR in
     * which, UNDER another KNOT of a lesser number (one must undo that first) or none (-1), TIED or not, and LOAD (0 to 99; 0 at
     * first)." All at once, at one end and at the other; 199 can neither be BOUND nor told.
     */
    static void bindAllAtTheEnds() {
        Script.run("people 6; hand 0 0 0; hand 1 1 0; bind 0 1 -1; ofKnot 0 1 = 0; ofKnot 0 2 = 0; ofKnot 0 3 = 1; ofKnot 0 4 = 0; ofKnot 0 5 = 0;"
            + "ofKnot 0 6 = -1; ofKnot 0 7 = 1; ofKnot 0 8 = 0; hand 5 0 99; hand 4 1 99; year 999; bind 9 54 0; ofKnot 1 1 = 9; ofKnot 1 2 = 5;"
            + "ofKnot 1 3 = 4; ofKnot 1 4 = 198; ofKnot 1 5 = 999; ofKnot 1 6 = 0; ofKnot 1 7 = 1; ofKnot 1 8 = 0; change 1 0 199 = BEYOND;"
            + "undo 1 54 = STATE");
    }

    /** Promise 6: "A KNOT is UNDONE by two (pair likewise)" - each two of six, the one way and the other. */
    static void undoByEachTwo() {
        for (int one = 0; one < 6; one++) {
            for (int other = 0; other < 6; other++) {
                if (one != other) {
                    String bound = "people 6; bind 0 " + one + other + " -1; ";
                    Script.run(bound + "undo 0 " + one + other + " = 0");
                    Script.run(bound + "undo 0 " + other + one + " = 0");
                }
            }
        }
    }

    /** Promise 6: "how many are TIED then." From the eighth down to none. */
    static void undoToTheLast() {
        Script.run(EIGHT + "undo 7 1 = 7; undo 0 1 = 6; undo 3 10 = 5; undo 4 1 = 4; undo 1 1 = 3; undo 6 1 = 2; undo 2 1 = 1;"
            + "count 5 = 32; undo 5 1 = 0; count 5 = 0");
    }

    /** Promise 6: "BEYOND: also one and the same." No such KNOT, no such two; asked ahead of STATE. */
    static void undoBeyond() {
        Script.run("undo 0 1 = BEYOND; bind 0 1 -1; undo -1 1 = BEYOND; undo 1 1 = BEYOND; undo 8 1 = BEYOND;"
            + "undo MIN 1 = BEYOND; undo MAX 1 = BEYOND; undo 0 0 = BEYOND; undo 0 11 = BEYOND; undo 0 4 = BEYOND;"
            + "undo 0 40 = BEYOND; undo 0 -1 = BEYOND; undo 0 100 = BEYOND; undo 0 MIN = BEYOND; undo 0 MAX = BEYOND;"
            + "count 5 = 1; undo 0 1 = 0; undo 0 0 = BEYOND; undo 1 1 = BEYOND; undo 0 1 = STATE; told 1 = 16");
        Script.run(EIGHT + "undo 8 1 = BEYOND; undo 7 1 = 7");
    }

    /** Promise 6: "STATE: it CAN not be." Each hindrance by itself; nothing is loose behind it. */
    static void undoCanNot() {
        Script.run("bind 0 1 -1; bind 0 1 0; undo 1 1 = STATE; undo 0 23 = STATE; hand 1 2 0; undo 0 1 = STATE; hand 1 2 1; change 0 0 36;"
            + "undo 0 1 = STATE; count 5 = 3; change 0 2 0; undo 0 1 = STATE; told 3 = 5");
    }

    /** Promise 6, by the Terms: "It CAN be UNDONE by two" "it is TIED" - not twice, unless it is TIED anew. */
    static void undoTwice() {
        Script.run("bind 0 1 -1; undo 0 1 = 0; undo 0 1 = STATE; undo 0 10 = STATE; change 0 2 1 = 0; undo 0 10 = 0;"
            + "told 3 = 2");
    }

    /** Promise 6, by the Terms: "MISSES is EASE or less" - above and below the CROSSING; a refused one stays TIED. */
    static void undoUpToEase() {
        Script.run("bind 0 1 -1; change 0 0 36; undo 0 1 = STATE; count 5 = 1; change 0 0 35; undo 0 1 = 0");
        Script.run("bind 0 1 -1; change 0 0 24; undo 0 1 = STATE; count 5 = 1; change 0 0 25; undo 0 1 = 0");
    }

    /** Promise 6, by the Terms: "EASE (up to what MISSES it comes loose)" - of each KIND, at its edges. */
    static void undoEachKind() {
        int[][] kinds = {{0, 0, 5}, {9, 99, 5}, {10, 0, 5}, {19, 99, 14}, {20, 0, 10}, {29, 99, 10}, {30, 0, 5}, {34, 0, 1},
            {35, 99, 5}, {39, 0, 1}, {40, 0, 5}, {49, 9, 14}, {49, 10, 13}, {49, 99, 5}, {44, 90, 0}, {40, 99, 0}, {50, 99, 10},
            {60, 50, 5}, {64, 50, 1}, {60, 51, 0}};
        for (int[] k : kinds) {
            String tied = "bind " + k[0] + " 1 -1; change 0 3 " + k[1] + "; change 0 0 ";
            Script.run(tied + (30 + k[2] + 1) + "; undo 0 1 = STATE; undo 0 10 = STATE; change 0 0 " + (30 + k[2]) + "; undo 0 1 = 0");
            Script.run(tied + (30 - k[2] - 1) + "; undo 0 1 = STATE; undo 0 10 = STATE; change 0 0 " + (30 - k[2]) + "; undo 0 10 = 0");
        }
    }

    /** Promise 6, by the Terms: "LOOP: as SLIP, and YEAR less that in which it was BOUND." On and back. */
    static void undoALoopByYears() {
        Script.run("bind 50 1 -1; change 0 0 41; undo 0 1 = STATE; year 1; undo 0 1 = 0");
        Script.run("year 10; bind 50 1 -1; year 0; change 0 0 31; undo 0 1 = STATE; change 0 0 30; undo 0 1 = 0");
        Script.run("year 999; bind 50 1 -1; year 0; change 0 0 31; undo 0 1 = STATE; change 0 0 29; undo 0 1 = STATE;"
            + "change 0 0 30; undo 0 1 = 0");
        Script.run("bind 50 1 -1; year 999; change 0 0 198; undo 0 1 = 0");
    }

    /** Promise 6, by the Terms: "PULL of two (ONE and OTHER, as they are told) on a KNOT: RIGHT of ONE and LEFT of OTHER, together (left for right)." */
    static void undoLeftForRight() {
        Script.run("bind 0 1 -1; hand 0 1 26; undo 0 1 = STATE; undo 0 10 = 0");
        Script.run("bind 0 1 -1; hand 1 0 16; undo 0 1 = STATE; undo 0 10 = 0");
        Script.run("bind 0 1 -1; hand 1 1 26; undo 0 10 = STATE; undo 0 1 = 0");
        Script.run("bind 0 1 -1; hand 0 0 16; undo 0 10 = STATE; undo 0 1 = 0");
    }

    /** Promise 6, by the Terms: "it is UNDER none that is TIED" - that right above it, not one above that. */
    static void undoUnder() {
        Script.run("bind 0 1 -1; bind 0 1 0; bind 0 1 1; undo 2 1 = STATE; undo 1 1 = STATE; undo 0 1 = 2; undo 2 1 = STATE;"
            + "undo 1 1 = 1; undo 2 1 = 0");
        Script.run("bind 0 1 -1; bind 0 1 0; bind 0 1 1; change 1 2 0; undo 2 1 = 1; change 1 2 1; undo 1 1 = STATE; count 5 = 3");
        Script.run("bind 0 1 -1; ".repeat(7) + "bind 0 1 6; undo 7 1 = STATE; undo 6 1 = 7; undo 7 1 = 6");
    }

    /** Promise 6, by the Terms: "both are THERE" - ONE, and OTHER. */
    static void undoByOneWhoIsGone() {
        Script.run("bind 0 1 -1; hand 0 2 0; undo 0 1 = STATE; undo 0 10 = STATE; hand 0 2 1; hand 1 2 0; undo 0 1 = STATE;"
            + "undo 0 10 = STATE; hand 1 2 1; hand 2 2 0; hand 3 2 0; undo 0 1 = 0");
    }

    /** Promise 6, by the Terms: "and two are those who bound it (the one way or the other), or the other TEXT gives other than 0." */
    static void undoByOthers() {
        Script.run("bind 0 1 -1; undo 0 23 = STATE; undo 0 2 = STATE; undo 0 21 = STATE; type 1; text 1; undo 0 23 = 0");
        Script.run("bind 0 1 -1; type 1; text 1; undo 0 21 = 0");
        Script.run("bind 0 1 -1; type 0-1; text 1; undo 0 23 = STATE; type 2; text 1; undo 0 23 = 0");
        Script.run("bind 0 1 -1; type 0; text 1; undo 0 23 = STATE; undo 0 10 = 0");
        Script.run("bind 0 1 -1; type d; text 1; undo 0 23 = STATE; change 0 0 31; undo 0 23 = 0");
        Script.run("bind 3 1 -1; type m-2; text 1; undo 0 23 = 0");
        Script.run("bind 3 1 -1; type m-3; text 1; undo 0 23 = STATE; undo 0 1 = 0");
        Script.run("bind 0 1 -1; type l=99; text 1; change 0 3 98; undo 0 23 = STATE; change 0 3 99; undo 0 23 = 0");
        Script.run("bind 0 1 -1; type 1; text 1; change 0 0 36; undo 0 23 = STATE; change 0 0 35; undo 0 23 = 0");
    }

    /** Promise 6, by the Terms: "(also by others than those who bound it)" - they, too, must be THERE. */
    static void undoByOthersWhoAreGone() {
        Script.run("bind 0 1 -1; type 1; text 1; hand 2 2 0; undo 0 23 = STATE; undo 0 32 = STATE; undo 0 3 = 0");
    }

    /** Promise 7: "Of a KNOT: 0 KIND, 1 m, 2 ONE, 3 OTHER, 4 CROSSING, 5 YEAR, 6 UNDER (-1), 7 whether TIED, 8 LOAD, 9 EASE now." */
    static void ofKnotEach() {
        Script.run("people 6; year 998; hand 5 0 33; hand 4 1 44; bind 0 1 -1; bind 47 54 0; change 1 3 21; ofKnot 1 0 = 4;"
            + "ofKnot 1 1 = 7; ofKnot 1 2 = 5; ofKnot 1 3 = 4; ofKnot 1 4 = 77; ofKnot 1 5 = 998; ofKnot 1 6 = 0; ofKnot 1 7 = 1;"
            + "ofKnot 1 8 = 21; ofKnot 1 9 = 10; ofKnot 0 6 = -1; undo 0 1; ofKnot 0 7 = 0; ofKnot 1 6 = 0");
    }

    /** Promise 7: "BEYOND." No such KNOT, no such what. */
    static void ofKnotBeyond() {
        Script.run("ofKnot 0 0 = BEYOND; ofKnot -1 0 = BEYOND; bind 0 1 -1; ofKnot 0 0 = 0; ofKnot 0 9 = 5; ofKnot 0 10 = BEYOND;"
            + "ofKnot 0 -1 = BEYOND; ofKnot 1 0 = BEYOND; ofKnot -1 0 = BEYOND; ofKnot MAX 0 = BEYOND; ofKnot MIN 0 = BEYOND;"
            + "ofKnot 0 MAX = BEYOND; ofKnot 0 MIN = BEYOND; told 1 = 10");
        Script.run(EIGHT + "ofKnot 7 0 = 0; ofKnot 8 0 = BEYOND");
    }

    private static void ease(int km, int load, int bound, int now, int want) {
        Script.run("bind " + km + " 1 -1; change 0 3 " + load + "; change 0 1 " + bound + "; year " + now + "; ofKnot 0 9 = " + want);
    }

    /** Promise 7, by the Terms: "KNOT: 5. BOW: that, and m. SLIP: twice a KNOT's." Neither LOAD nor YEAR matters. */
    static void easeOfKnotBowSlip() {
        for (int m = 0; m <= 9; m++) {
            ease(m, 99, 0, 999, 5);
            ease(10 + m, 99, 0, 999, 5 + m);
            ease(20 + m, 99, 0, 999, 10);
            ease(20 + m, 0, 999, 0, 10);
        }
    }

    /** Promise 7, by the Terms: "LACE: a KNOT's, less the rest of m by 5." */
    static void easeOfLace() {
        int[] wants = {5, 4, 3, 2, 1, 5, 4, 3, 2, 1};
        for (int m = 0; m <= 9; m++) {
            ease(30 + m, 99, 0, 999, wants[m]);
        }
    }

    /** Promise 7, by the Terms: "HITCH: as BOW, less LOAD by 10 (cut)." "(0 at least, at the end.)" */
    static void easeOfHitch() {
        ease(40, 0, 0, 999, 5);
        ease(40, 9, 0, 0, 5);
        ease(40, 10, 0, 0, 4);
        ease(40, 49, 0, 0, 1);
        ease(40, 50, 0, 0, 0);
        ease(40, 59, 0, 0, 0);
        ease(40, 60, 0, 0, 0);
        ease(40, 99, 0, 0, 0);
        ease(44, 89, 0, 0, 1);
        ease(44, 90, 0, 0, 0);
        ease(49, 99, 0, 0, 5);
    }

    /** Promise 7, by the Terms: "LOOP: as SLIP, and YEAR less that in which it was BOUND." "(0 at least, at the end.)" */
    static void easeOfLoop() {
        ease(50, 99, 0, 0, 10);
        ease(59, 0, 0, 1, 11);
        ease(50, 0, 0, 999, 1009);
        ease(50, 0, 999, 999, 10);
        ease(50, 0, 1, 0, 9);
        ease(50, 0, 9, 0, 1);
        ease(50, 0, 10, 0, 0);
        ease(50, 0, 11, 0, 0);
        ease(50, 0, 999, 0, 0);
    }

    /** Promise 7, by the Terms: "PARCEL: as LACE, 0 if LOAD is above 50." */
    static void easeOfParcel() {
        ease(60, 0, 0, 999, 5);
        ease(60, 50, 0, 0, 5);
        ease(60, 51, 0, 0, 0);
        ease(64, 50, 0, 0, 1);
        ease(65, 50, 0, 0, 5);
        ease(69, 50, 0, 0, 1);
        ease(69, 51, 0, 0, 0);
        ease(60, 99, 0, 0, 0);
    }

    /** Promise 7, by the Terms: "Quotients are cut (toward 0)." A HITCH's LOAD by 10. */
    static void easeIsCut() {
        ease(45, 19, 0, 0, 9);
        ease(45, 20, 0, 0, 8);
        ease(45, 29, 0, 0, 8);
        ease(45, 95, 0, 0, 1);
    }

    /** Promise 8: "CROSSING (what 0; 0 to 198)" */
    static void changeCrossing() {
        Script.run("bind 0 1 -1; change 0 0 -1 = BEYOND; change 0 0 199 = BEYOND; ofKnot 0 4 = 30; change 0 0 0 = 30;"
            + "change 0 0 198 = 0; change 0 0 199 = BEYOND; change 0 0 MAX = BEYOND; change 0 0 MIN = BEYOND; ofKnot 0 4 = 198");
    }

    /** Promise 8: "YEAR (1)" - 0 to 999, of the KNOT alone. */
    static void changeYear() {
        Script.run("year 7; bind 0 1 -1; change 0 1 -1 = BEYOND; change 0 1 1000 = BEYOND; ofKnot 0 5 = 7; change 0 1 0 = 7;"
            + "change 0 1 999 = 0; change 0 1 1000 = BEYOND; change 0 1 MIN = BEYOND; ofKnot 0 5 = 999; count 2 = 7");
    }

    /** Promise 8: "TIED (2: 0, 1)" */
    static void changeTied() {
        Script.run("bind 0 1 -1; change 0 2 -1 = BEYOND; change 0 2 2 = BEYOND; ofKnot 0 7 = 1; change 0 2 1 = 1;"
            + "change 0 2 0 = 1; change 0 2 0 = 0; change 0 2 2 = BEYOND; ofKnot 0 7 = 0; count 5 = 0; change 0 2 1 = 0;"
            + "count 5 = 1");
    }

    /** Promise 8: "LOAD (3) of a KNOT becomes v: what it was." 0 to 99. */
    static void changeLoad() {
        Script.run("bind 0 1 -1; change 0 3 -1 = BEYOND; change 0 3 100 = BEYOND; ofKnot 0 8 = 0; change 0 3 99 = 0;"
            + "change 0 3 100 = BEYOND; ofKnot 0 8 = 99; change 0 3 0 = 99; change 0 3 MIN = BEYOND; ofKnot 0 8 = 0");
    }

    /** Promise 8: "BEYOND." No such KNOT, no such what. */
    static void changeBeyond() {
        Script.run("change 0 0 0 = BEYOND; bind 0 1 -1; change -1 0 0 = BEYOND; change 1 0 0 = BEYOND; change 0 -1 0 = BEYOND;"
            + "change 0 4 0 = BEYOND; change MIN 0 0 = BEYOND; change MAX 0 0 = BEYOND; change 0 MIN 0 = BEYOND;"
            + "change 0 MAX 0 = BEYOND; ofKnot 0 4 = 30; ofKnot 0 7 = 1; told 1 = 9");
        Script.run(EIGHT + "change 7 0 0 = 30; change 8 0 0 = BEYOND");
    }

    /** Promise 9: "A KNOT becomes one of a KIND, with m (km): the KIND that it was." km is 0 to 69; all else stays. */
    static void becomeAtTheEnds() {
        Script.run("year 5; bind 0 1 -1; bind 25 10 0; change 1 3 9; become 1 69 = 2; ofKnot 1 0 = 6; ofKnot 1 1 = 9;"
            + "become 1 70 = BEYOND; become 1 -1 = BEYOND; ofKnot 1 0 = 6; ofKnot 1 1 = 9; become 1 0 = 6; ofKnot 1 0 = 0;"
            + "ofKnot 1 1 = 0; become 1 9 = 0; become 1 10 = 0; ofKnot 1 0 = 1; ofKnot 1 1 = 0; ofKnot 1 2 = 1; ofKnot 1 3 = 0;"
            + "ofKnot 1 4 = 30; ofKnot 1 5 = 5; ofKnot 1 6 = 0; ofKnot 1 7 = 1; ofKnot 1 8 = 9; ofKnot 0 0 = 0");
    }

    /** Promise 9: "BEYOND." No such KNOT, no such km. */
    static void becomeBeyond() {
        Script.run("become 0 0 = BEYOND; bind 33 1 -1; become -1 0 = BEYOND; become 1 0 = BEYOND; become 0 MAX = BEYOND;"
            + "become 0 MIN = BEYOND; become MAX 0 = BEYOND; become MIN 0 = BEYOND; ofKnot 0 0 = 3; ofKnot 0 1 = 3; told 1 = 7");
        Script.run(EIGHT + "become 7 0 = 0; become 8 0 = BEYOND");
    }

    /** Promise 10: "A KNOT as one of a KIND: m." From 0 to 9, as its own KIND and as KNOT. */
    static void asTellsM() {
        for (int km = 0; km < 70; km++) {
            Script.run("bind " + km + " 1 -1; as 0 " + km / 10 + " = " + km % 10 + "; as 0 0 = " + km % 10);
        }
    }

    /**
     * Promise 10, by the Terms: "of KINDS: 0 KNOT; 1 BOW, 2 SLIP, 3 LACE under KNOT; 4 HITCH under BOW; 5 LOOP under SLIP; 6 PARCEL
     * under LACE;" What is above a KIND, and what is beside and below it.
     */
    static void asKindsAboveAndBelow() {
        Script.run("bind 48 1 -1; as 0 4 = 8; as 0 1 = 8; as 0 0 = 8; as 0 2 = KIND; as 0 3 = KIND; as 0 5 = KIND; as 0 6 = KIND;"
            + "become 0 57; as 0 5 = 7; as 0 2 = 7; as 0 0 = 7; as 0 1 = KIND; become 0 66; as 0 6 = 6; as 0 3 = 6; as 0 0 = 6; as 0 2 = KIND;"
            + "become 0 15; as 0 1 = 5; as 0 4 = KIND; become 0 4; as 0 0 = 4; as 0 1 = KIND; as 0 2 = KIND; as 0 3 = KIND; told 5 = 10");
    }

    /** Promise 10: "KIND: it isn't of that KIND, nor of one under it." Each KIND as each. */
    static void asEachKind() {
        String[] kindsOf = {"0", "01", "02", "03", "014", "025", "036"};
        for (int kind = 0; kind <= 6; kind++) {
            for (int as = 0; as <= 6; as++) {
                boolean is = kindsOf[kind].indexOf('0' + as) >= 0;
                Script.run("bind " + (10 * kind + 9 - kind) + " 1 -1; as 0 " + as + " = " + (is ? "" + (9 - kind) : "KIND")
                    + "; told 5 = " + (is ? 0 : 1));
            }
        }
    }

    /** Promise 10: "BEYOND." No such KNOT, no such KIND; asked ahead of KIND. */
    static void asBeyond() {
        Script.run("as 0 0 = BEYOND; bind 7 1 -1; as 0 0 = 7; as 0 6 = KIND; as 0 7 = BEYOND; as 0 -1 = BEYOND;"
            + "as -1 6 = BEYOND; as 1 6 = BEYOND; as 0 MAX = BEYOND; as 0 MIN = BEYOND; as MIN 0 = BEYOND; as MAX 0 = BEYOND;"
            + "told 1 = 9; told 5 = 1");
        Script.run(EIGHT + "as 7 0 = 0; as 8 0 = BEYOND");
    }
}
