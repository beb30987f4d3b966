/** Edges that the document names, promises 17 to 29: what would be. */
public final class EdgesOfThoughtTest {
    private static final String EIGHT = "bind 0 1 -1; ".repeat(8);
    private static final String NOBODY = "hand 0 2 0; hand 1 2 0; hand 2 2 0; hand 3 2 0; ";

    public static void main(String[] args) {
        Script.runAll(EdgesOfThoughtTest.class);
    }

    /** Promise 17: "BEHIND n YEARS, of one: what 0 LEFT, 1 RIGHT." By the Terms n is 0 to 60; nothing is changed by it. */
    static void thenZeroToSixty() {
        Script.run("then 0 0 0 = 10; then 0 0 1 = 20; then 1 0 0 = 11; then 60 3 0 = 70; then 60 3 1 = 80; then 61 0 0 = BEYOND;"
            + "then -1 0 0 = BEYOND; then MAX 0 0 = BEYOND; then MIN 0 0 = BEYOND; count 2 = 0; count 3 = 120; told 1 = 4");
    }

    /** Promise 17: "BEYOND." No such person, no such what. */
    static void thenBeyond() {
        Script.run("then 0 -1 0 = BEYOND; then 0 4 0 = BEYOND; then 0 3 0 = 10; then 0 0 -1 = BEYOND; then 0 0 2 = BEYOND;"
            + "then 0 MIN 0 = BEYOND; then 0 MAX 0 = BEYOND; then 0 0 MIN = BEYOND; then 0 0 MAX = BEYOND; told 1 = 8");
        Script.run("people 2; then 5 1 0 = 15; then 5 2 0 = BEYOND; people 6; then 5 5 0 = 15; then 5 6 0 = BEYOND");
    }

    /** Promise 17, by the Terms: "(All this is only thought, YEAR beyond 999, too; nobody leaves or comes.)" */
    static void thenBeyond999() {
        Script.run("year 999; then 60 0 0 = 70; count 2 = 999; type v+(y=0); text 0; then 1 0 0 = 10; then 2 0 0 = 11;"
            + "then 11 0 0 = 11; then 12 0 0 = 12; then 60 0 0 = 16; years 1 = STATE");
        Script.run("hand 1 2 0; then 60 1 0 = 10; then 60 1 1 = 20; then 60 0 0 = 70; count 9 = 1; count 4 = 13");
    }

    /** Promise 17, by the Terms: "BEHIND n YEARS (0 to 60): HANDS as they would be then." Held within 0 to 99 by each YEAR. */
    static void thenIsHeld() {
        Script.run("hand 0 0 40; then 59 0 0 = 99; then 60 0 0 = 99; then 58 0 0 = 98; type v-9; text 0; then 4 0 0 = 4; then 5 0 0 = 0;"
            + "then 60 0 0 = 0");
    }

    /** Promise 18: "What two (pair) MISS on a KNOT now (what 0)" - from 0 to 198, above and below, whoever is THERE. */
    static void canMisses() {
        Script.run("bind 0 1 -1; can 0 1 0 = 0; change 0 0 31; can 0 1 0 = 1; change 0 0 29; can 0 1 0 = 1; change 0 0 198;"
            + "hand 0 1 0; hand 1 0 0; can 0 1 0 = 198; can 0 10 0 = 168; change 0 0 0; hand 0 1 99; hand 1 0 99; can 0 1 0 = 198;"
            + "hand 0 2 0; hand 1 2 0; can 0 1 0 = 198; change 0 2 0; can 0 1 0 = 198; can 0 23 0 = 30");
    }

    /** Promise 18, by the Terms: "MISSES: how far PULL is from CROSSING (without sign)." One on each side of it, and none. */
    static void missesWithoutSign() {
        Script.run("bind 0 1 -1; hand 0 1 21; can 0 1 0 = 1; hand 0 1 19; can 0 1 0 = 1; hand 0 1 20; can 0 1 0 = 0; hand 1 0 99; can 0 1 0 = 89;"
            + "hand 1 0 0; can 0 1 0 = 10");
    }

    /** Promise 18: "whether they CAN undo it (1)." Up to EASE; neither gone, nor loose, nor UNDER a TIED one. */
    static void canOrNot() {
        Script.run("bind 0 1 -1; bind 0 1 0; can 0 1 1 = 1; can 1 1 1 = 0; change 0 0 35; can 0 1 1 = 1; change 0 0 36; can 0 1 1 = 0;"
            + "change 0 0 25; can 0 10 1 = 1; change 0 0 24; can 0 10 1 = 0; change 0 0 30; hand 1 2 0; can 0 1 1 = 0; can 0 10 1 = 0;"
            + "hand 1 2 1; change 0 2 0; can 0 1 1 = 0; can 1 1 1 = 1; can 1 23 1 = 0; type 1; text 1; can 1 23 1 = 1; count 5 = 2");
    }

    /** Promise 18: "What two (pair) MISS on a KNOT now" - each two of six, told as 10 times ONE, and OTHER. */
    static void canOfEachTwo() {
        StringBuilder hands = new StringBuilder("people 6; bind 0 1 -1; change 0 0 0; ");
        for (int i = 0; i < 6; i++) {
            hands.append("hand ").append(i).append(" 0 ").append(i + 1).append("; hand ").append(i).append(" 1 ").append(10 * i + 10).append("; ");
        }
        for (int one = 0; one < 6; one++) {
            for (int other = 0; other < 6; other++) {
                if (one != other) {
                    hands.append("can 0 ").append(one).append(other).append(" 0 = ").append(10 * one + other + 11).append("; ");
                }
            }
        }
        Script.run(hands.toString());
    }

    /** Promise 18: "BEYOND: also one and the same." No such KNOT, two or what. */
    static void canBeyond() {
        Script.run("can 0 1 0 = BEYOND; bind 0 1 -1; can 0 1 0 = 0; can 1 1 0 = BEYOND; can -1 1 0 = BEYOND; can 0 0 0 = BEYOND;"
            + "can 0 33 1 = BEYOND; can 0 4 0 = BEYOND; can 0 40 0 = BEYOND; can 0 -1 0 = BEYOND; can 0 100 0 = BEYOND;"
            + "can 0 1 -1 = BEYOND; can 0 1 2 = BEYOND; can 0 MIN 0 = BEYOND; can 0 MAX 0 = BEYOND; can MIN 1 0 = BEYOND;"
            + "can MAX 1 0 = BEYOND; told 1 = 15");
        Script.run(EIGHT + "can 7 1 1 = 1; can 8 1 1 = BEYOND");
    }

    /** Promise 19, by the Terms: "LAST of a KNOT: the greatest n (0 to 60) behind which it is so (OWN)." 0, 60, and none. */
    static void lastZeroToSixty() {
        Script.run("bind 0 1 -1; change 0 0 25; last 0 = 0; change 0 0 24; last 0 = NONE; change 0 0 27; last 0 = 1; change 0 0 145;"
            + "last 0 = 60; change 0 0 155; last 0 = 60; change 0 0 156; last 0 = NONE; change 0 0 144; last 0 = 59; told 2 = 2");
    }

    /** Promise 19, by the Terms: "the greatest n (0 to 60)" - though it is not so for each n ahead of it. */
    static void lastWithGaps() {
        Script.run("bind 0 1 -1; type (v+50)%100; text 0; last 0 = 60; change 0 0 130; last 0 = 59; can 0 1 1 = 0; change 0 0 80;"
            + "last 0 = NONE");
    }

    /** Promise 19: "NONE: not by 60." Loose, or one gone, or only others could; not so if it is only UNDER another. */
    static void lastNone() {
        Script.run("bind 0 1 -1; bind 0 1 0; last 1 = 2; change 0 2 0; last 0 = NONE; last 1 = 2; hand 0 2 0; last 1 = NONE; hand 0 2 1;"
            + "hand 1 2 0; last 1 = NONE; hand 1 2 1; type 1; text 1; change 1 0 60; hand 2 1 50; last 1 = 17; change 1 0 198;"
            + "last 1 = NONE; told 2 = 4");
    }

    /** Promise 19, by the Terms: "OWN of a KNOT: whether those who bound it CAN undo it (the one way or the other), were it UNDER none." */
    static void lastTheOneWayOrTheOther() {
        Script.run("bind 0 1 -1; hand 0 1 60; last 0 = 2; hand 1 1 50; last 0 = NONE; hand 0 1 20; last 0 = 2");
    }

    /** Promise 19, by the Terms: "(All this is only thought, YEAR beyond 999, too" - a LOOP's EASE goes on with it. */
    static void lastOfALoopBeyond999() {
        Script.run("year 999; bind 50 1 -1; last 0 = 10; odds 0 0 = 1; odds 0 1 = 1; open 10 = 1; open 11 = 0; ofKnot 0 9 = 10");
    }

    /** Promise 19: "LAST. BEYOND." No such KNOT; asked ahead of NONE. */
    static void lastBeyond() {
        Script.run("last 0 = BEYOND; last -1 = BEYOND; bind 0 1 -1; last 0 = 2; last 1 = BEYOND; last MIN = BEYOND; last MAX = BEYOND");
        Script.run(EIGHT + "last 7 = 2; last 8 = BEYOND");
    }

    /** Promise 20: "OPEN. BEYOND." By the Terms behind 0 to 60 YEARS; without KNOTS there are none. */
    static void openZeroToSixty() {
        Script.run("open 0 = 0; open 60 = 0; open -1 = BEYOND; open 61 = BEYOND; open MIN = BEYOND; open MAX = BEYOND; bind 0 1 -1;"
            + "open 0 = 1; open 2 = 1; open 3 = 0; change 0 0 155; open 60 = 1; open 59 = 0; count 5 = 1; told 1 = 4");
    }

    /** Promise 20, by the Terms: "OPEN behind n YEARS: as long as there are any that two CAN undo then, the least of them is UNDONE" - a chain of eight. */
    static void openAChain() {
        StringBuilder chain = new StringBuilder();
        for (int i = 0; i < 8; i++) {
            chain.append("bind 0 1 ").append(i - 1).append("; ");
        }
        Script.run(chain + "open 0 = 255; change 7 0 36; open 0 = 127; change 0 0 36; open 0 = 0; change 0 2 0; open 0 = 126;"
            + "change 3 0 36; open 0 = 6; change 3 2 0; open 0 = 118; count 5 = 246");
    }

    /** Promise 20, by the Terms: "as long as there are any that two CAN undo then" - the one way alone, or the other. */
    static void openTheOneWayOrTheOther() {
        Script.run("bind 0 1 -1; hand 0 1 26; can 0 1 1 = 0; open 0 = 1; keep = 3; miss 0 0 = 0; miss 0 1 = 0; hand 1 1 26; open 0 = 0; keep = 0");
        Script.run("bind 0 1 -1; hand 1 1 26; can 0 10 1 = 0; open 0 = 1; keep = 3; miss 0 0 = 0; miss 0 1 = 0; hand 0 1 26; open 0 = 0; keep = 0");
    }

    /** Promise 20, by the Terms: "all these, as a set." Loose ones are none of them; with one alone THERE there are none. */
    static void openAsASet() {
        Script.run(EIGHT + "open 0 = 255; change 0 2 0; change 7 2 0; open 0 = 126; hand 0 2 0; open 0 = 0; type 1; text 1; open 0 = 126;"
            + "hand 1 2 0; open 0 = 126; hand 2 2 0; open 0 = 0; hand 3 2 0; open 0 = 0");
    }

    /**
     * Promise 21, by the Terms: "PAIR for a KNOT: of all two (ONE and OTHER, the one and the other way) who CAN undo it now, were it
     * UNDER none, those with least MISSES; of several the first by ONE, then by OTHER: 10 times ONE, and OTHER; MISSES."
     */
    static void pairTheFirst() {
        Script.run("bind 0 32 -1; pair 0 0 = 23; pair 0 1 = 0; hand 2 1 21; pair 0 0 = 32; pair 0 1 = 0; type 1; text 1; pair 0 0 = 1;"
            + "hand 0 2 0; pair 0 0 = 12; hand 1 2 0; pair 0 0 = 32; change 0 0 31; pair 0 0 = 23; pair 0 1 = 0; change 0 0 36;"
            + "pair 0 0 = 23; pair 0 1 = 5; change 0 0 37; pair 0 0 = NONE; pair 0 1 = NONE");
        Script.run("people 6; bind 0 54 -1; pair 0 0 = 45; hand 4 1 25; pair 0 0 = 54; hand 4 1 26; hand 4 0 15; pair 0 0 = 54; pair 0 1 = 5");
        Script.run("type 1; text 1; bind 0 23 -1; change 0 0 35; hand 0 1 22; hand 1 0 11; pair 0 0 = 1; pair 0 1 = 2; hand 3 1 25;"
            + "pair 0 0 = 30; pair 0 1 = 0; hand 2 0 15; pair 0 0 = 12; pair 0 1 = 0");
    }

    /** Promise 21: "NONE: there are none." Nobody CAN: loose, gone, too far; though UNDER another is no hindrance. */
    static void pairNone() {
        Script.run("bind 0 1 -1; bind 0 1 0; pair 1 0 = 1; change 1 0 35; pair 1 1 = 5; change 1 0 36; pair 1 0 = NONE; pair 1 1 = NONE;"
            + "change 0 2 0; pair 0 0 = NONE; change 0 2 1; hand 1 2 0; pair 0 0 = NONE; pair 0 1 = NONE; told 2 = 5");
    }

    /** Promise 21: "PAIR: what 0 the two, 1 MISSES. BEYOND." No such KNOT, no such what; asked ahead of NONE. */
    static void pairBeyond() {
        Script.run("pair 0 0 = BEYOND; bind 0 1 -1; change 0 2 0; pair 0 2 = BEYOND; pair 0 -1 = BEYOND; pair 1 0 = BEYOND;"
            + "pair -1 0 = BEYOND; pair MIN 0 = BEYOND; pair MAX 0 = BEYOND; pair 0 MIN = BEYOND; pair 0 MAX = BEYOND; pair 0 1 = NONE;"
            + "told 1 = 9");
        Script.run(EIGHT + "pair 7 0 = 1; pair 8 0 = BEYOND");
    }

    /** Promise 22: "MISS: what 0 who, 1 how many. BEYOND." */
    static void missBeyond() {
        Script.run("miss 0 0 = 0; miss 20 1 = 0; miss 21 0 = BEYOND; miss -1 0 = BEYOND; miss MIN 0 = BEYOND; miss MAX 0 = BEYOND;"
            + "miss 0 -1 = BEYOND; miss 0 2 = BEYOND; miss 0 MIN = BEYOND; miss 0 MAX = BEYOND; told 1 = 8");
    }

    /** Promise 22, by the Terms: "MISS by n (0 to 20)" - 0, 20, and what is between. */
    static void missZeroToTwenty() {
        Script.run("bind 0 12 -1; change 0 0 75; miss 20 0 = 1; miss 20 1 = 0; bind 0 23 -1; change 1 0 75; miss 20 0 = 2; miss 20 1 = 0;"
            + "miss 19 0 = 0; miss 19 1 = 0; miss 0 0 = 0");
    }

    /** Promise 22, by the Terms: "the one of those THERE without whom (not THERE) fewest KNOTS are OPEN behind n YEARS; of several the least; how many then." */
    static void missTheLeast() {
        Script.run("bind 0 23 -1; miss 0 0 = 2; miss 0 1 = 0; bind 0 13 -1; miss 0 0 = 3; miss 0 1 = 0; bind 0 12 -1; miss 0 0 = 1;"
            + "miss 0 1 = 1; bind 0 1 -1; miss 0 0 = 1; miss 0 1 = 1; hand 1 2 0; miss 0 0 = 2; miss 0 1 = 0; hand 2 2 0; miss 0 0 = 0;"
            + "miss 0 1 = 0; hand 0 2 0; miss 0 0 = 3");
        Script.run("type 1; text 1; bind 0 23 -1; miss 0 0 = 0; miss 0 1 = 1; hand 0 2 0; hand 1 2 0; miss 0 0 = 2; miss 0 1 = 0");
        Script.run("people 6; bind 0 45 -1; bind 0 15 0; miss 0 0 = 4; miss 0 1 = 0; bind 0 35 -1; miss 0 0 = 5; miss 0 1 = 0");
    }

    /** Promise 22: "NONE: nobody is THERE." BEYOND is asked first; one alone is somebody. */
    static void missNobody() {
        Script.run("bind 0 1 -1; " + NOBODY + "miss 0 0 = NONE; miss 20 1 = NONE; miss 21 0 = BEYOND; miss 0 2 = BEYOND; hand 3 2 1;"
            + "miss 0 0 = 3; miss 0 1 = 0; told 2 = 2");
    }

    /** Promise 23: "KEEP." By the Terms nobody is kept where nothing is OPEN: no KNOTS, none TIED, nobody THERE. */
    static void keepNobody() {
        Script.run("keep = 0; bind 0 1 -1; keep = 3; change 0 2 0; keep = 0; change 0 2 1; change 0 0 36; keep = 0; change 0 0 35; keep = 3;"
            + NOBODY + "keep = 0");
    }

    /** Promise 23, by the Terms: "leave as many OPEN now as all do; of several sets the least." Up to all six. */
    static void keepTheLeast() {
        Script.run("people 6; bind 0 45 -1; keep = 48; bind 0 23 -1; keep = 60; bind 0 1 -1; keep = 63; type 1; text 1; keep = 3;"
            + "hand 0 2 0; keep = 6; hand 1 2 0; hand 2 2 0; keep = 24; hand 3 2 0; keep = 48; hand 4 2 0; keep = 0");
        Script.run("people 6; bind 0 45 -1; bind 0 15 -1; bind 0 14 -1; keep = 50; bind 0 5 0; keep = 51");
    }

    /** Promise 23, by the Terms: "KEEP: the fewest of those THERE who, they alone being THERE" - two, though three were less as a set. */
    static void keepTheFewest() {
        Script.run("people 6; bind 0 12 -1; change 0 0 36; hand 5 1 26; hand 4 1 26; type d=0; text 1; keep = 17; hand 0 2 0; keep = 18;"
            + "hand 4 2 0; keep = 34");
        Script.run("people 6; bind 0 1 -1; bind 0 12 -1; keep = 7; hand 3 1 25; type d=5; text 1; keep = 9; open 0 = 3");
    }

    /** Promise 24: "WHOSE, for a CROSSING (0 to 198): what 0 how many, 1 the first." */
    static void whoseZeroTo198() {
        Script.run("hand 1 0 0; hand 0 1 0; whose 0 0 = 1; whose 0 1 = 10; whose -1 0 = BEYOND; hand 1 0 99; hand 0 1 99; whose 198 0 = 1;"
            + "whose 198 1 = 10; whose 199 0 = BEYOND; told 1 = 2");
    }

    /** Promise 24: "BEYOND." No such CROSSING, no such what. */
    static void whoseBeyond() {
        Script.run("whose -1 0 = BEYOND; whose -1 1 = BEYOND; whose 199 0 = BEYOND; whose 199 1 = BEYOND; whose MIN 0 = BEYOND;"
            + "whose MAX 0 = BEYOND; whose 30 2 = BEYOND; whose 30 -1 = BEYOND; whose 30 0 = 12; told 1 = 8");
    }

    /** Promise 24, by the Terms: "WHOSE for a CROSSING: two (ONE and OTHER, THERE or not) by whom, BOUND now, it would be that: how many;" Up to 30. */
    static void whoseAll() {
        Script.run("people 2; whose 30 0 = 2; whose 30 1 = 1; people 6; whose 30 0 = 30; whose 30 1 = 1; hand 0 2 0; hand 5 2 0;"
            + "whose 30 0 = 30; whose 30 1 = 1; hand 0 0 9; whose 30 0 = 25; whose 30 1 = 10; whose 29 0 = 5; whose 29 1 = 1");
        Script.run("hand 2 0 40; whose 60 0 = 3; whose 60 1 = 20; hand 2 1 77; whose 117 0 = 0; whose 87 0 = 3; whose 87 1 = 2");
    }

    /** Promise 24, by the Terms: "the first by ONE, then OTHER, as in PAIR." */
    static void whoseTheFirst() {
        Script.run("hand 1 0 50; hand 3 0 50; whose 70 0 = 6; whose 70 1 = 10; hand 0 1 9; whose 70 0 = 4; whose 70 1 = 12; hand 2 1 9;"
            + "whose 70 1 = 13; hand 1 0 9; whose 70 0 = 1; whose 70 1 = 31");
    }

    /** Promise 24: "NONE: (what 1) there are none." With what 0 there are 0; BEYOND is asked first. */
    static void whoseNone() {
        Script.run("whose 31 0 = 0; whose 31 1 = NONE; whose 0 1 = NONE; whose 198 1 = NONE; whose 31 2 = BEYOND; whose 31 -1 = BEYOND;"
            + "whose 31 MIN = BEYOND; whose 31 MAX = BEYOND; told 2 = 3; told 1 = 4");
    }

    /** Promise 25: "HOLDS. BEYOND." None, one, all seven. */
    static void holdsNoneToSeven() {
        Script.run("holds 0 = BEYOND; holds -1 = BEYOND; bind 0 1 -1; holds 0 = 0; holds 1 = BEYOND; holds MIN = BEYOND; holds MAX = BEYOND;"
            + "bind 0 1 0; holds 0 = 2; holds 1 = 0; told 1 = 5");
        StringBuilder chain = new StringBuilder();
        for (int i = 0; i < 8; i++) {
            chain.append("bind 0 1 ").append(i - 1).append("; ");
        }
        Script.run(chain + "holds 0 = 254; holds 6 = 128; holds 7 = 0; holds 8 = BEYOND");
        Script.run("bind 0 1 -1; " + "bind 0 1 0; ".repeat(7) + "holds 0 = 254; holds 1 = 0; holds 7 = 0");
    }

    /** Promise 25, by the Terms: "HOLDS of a KNOT: all TIED ones that are UNDER it, or UNDER one of these, again and again, as a set." */
    static void holdsThroughTiedOnes() {
        Script.run("bind 0 1 -1; bind 0 1 0; bind 0 1 1; bind 0 1 2; holds 0 = 14; change 3 2 0; holds 0 = 6; change 3 2 1; change 1 2 0;"
            + "holds 0 = 0; holds 1 = 12; change 1 2 1; change 0 2 0; holds 0 = 14");
    }

    /** Promise 26: "ALIKE." Of no KNOTS, of one, of two. */
    static void alikeOfFew() {
        Script.run("alike = 0; bind 0 1 -1; alike = 0; bind 0 1 -1; alike = 1; undo 0 1; alike = 0; undo 1 1; alike = 0");
    }

    /** Promise 26, by the Terms: "ALIKE: how many pairs of TIED KNOTS have the same CROSSING." From none to 28. */
    static void alikeZeroTo28() {
        Script.run("alike = 0; bind 0 1 -1; alike = 0; bind 69 23 0; alike = 1; change 0 2 0; alike = 0; change 0 2 1; change 1 0 31;"
            + "alike = 0; change 0 0 31; alike = 1");
        Script.run(EIGHT + "alike = 28; change 7 0 31; alike = 21; change 6 0 31; alike = 16; change 0 2 0; alike = 11; change 7 2 0;"
            + "alike = 10");
    }

    /** Promise 27, by the Terms: "WAIT for a KNOT: the least n (0 to 60) behind which any two CAN undo it, were it UNDER none." */
    static void waitZeroToSixty() {
        Script.run("bind 0 1 -1; bind 0 1 0; waitFor 0 = 0; waitFor 1 = 0; change 1 0 35; waitFor 1 = 0; change 1 0 36; waitFor 1 = 1;"
            + "change 1 0 155; waitFor 1 = 60; change 1 0 154; waitFor 1 = 60; change 1 0 153; waitFor 1 = 59; change 1 0 156;"
            + "waitFor 1 = NONE; type 1; text 1; hand 3 1 22; waitFor 1 = 60; hand 3 1 23; waitFor 1 = 59; hand 3 2 0; waitFor 1 = NONE");
    }

    /** Promise 27: "WAIT. BEYOND." No such KNOT; asked ahead of NONE. */
    static void waitBeyond() {
        Script.run("waitFor 0 = BEYOND; waitFor -1 = BEYOND; bind 0 1 -1; waitFor 1 = BEYOND; waitFor MIN = BEYOND; waitFor MAX = BEYOND;"
            + "waitFor 0 = 0; told 1 = 5");
        Script.run(EIGHT + "waitFor 7 = 0; waitFor 8 = BEYOND");
    }

    /** Promise 27: "NONE: not by 60." Loose, gone, or past already. */
    static void waitNone() {
        Script.run("bind 0 1 -1; change 0 0 24; waitFor 0 = NONE; change 0 0 30; change 0 2 0; waitFor 0 = NONE; change 0 2 1; hand 0 2 0; waitFor 0 = NONE;"
            + "told 1 = 0; told 2 = 3");
    }

    /** Promise 28, by the Terms: "a fraction in lowest terms (0 is 0 by 1)." Of a SLIP, from 0 to 10 of the ten YEARS. */
    static void oddsEach() {
        int[][] wants = {{19, 0, 1}, {21, 1, 10}, {23, 1, 5}, {25, 3, 10}, {27, 2, 5}, {29, 1, 2}, {31, 3, 5}, {33, 7, 10},
            {35, 4, 5}, {37, 9, 10}, {38, 1, 1}, {58, 1, 10}, {59, 0, 1}};
        for (int[] w : wants) {
            Script.run("bind 20 1 -1; change 0 0 " + w[0] + "; odds 0 0 = " + w[1] + "; odds 0 1 = " + w[2]);
        }
    }

    /** Promise 28, by the Terms: "ODDS: that a KNOT is OWN behind n YEARS, n being 0 to 9, each just as likely" - not 10. */
    static void oddsZeroToNine() {
        Script.run("bind 20 1 -1; bind 20 1 0; change 0 0 58; odds 0 0 = 1; odds 0 1 = 10; change 0 0 59; odds 0 0 = 0; odds 0 1 = 1;"
            + "change 1 0 21; odds 1 0 = 1; odds 1 1 = 10; change 0 0 30; change 0 2 0; odds 0 0 = 0; odds 0 1 = 1; hand 0 2 0; odds 1 0 = 0;"
            + "odds 1 1 = 1; type 1; text 1; odds 1 0 = 0");
    }

    /** Promise 28: "ODDS: part 0 above, 1 below the line. BEYOND." */
    static void oddsBeyond() {
        Script.run("odds 0 0 = BEYOND; bind 0 1 -1; odds 0 0 = 3; odds 0 1 = 10; odds 0 -1 = BEYOND; odds 0 2 = BEYOND; odds 1 0 = BEYOND;"
            + "odds -1 0 = BEYOND; odds MIN 0 = BEYOND; odds MAX 0 = BEYOND; odds 0 MIN = BEYOND; odds 0 MAX = BEYOND; told 1 = 9");
        Script.run(EIGHT + "odds 7 1 = 10; odds 8 0 = BEYOND");
    }

    /** Promise 29, by the Terms: "how many are so, from the first on." None, all; a SHEET that is shorter, longer, empty. */
    static void fitsNoneToAll() {
        Script.run("sheet 0 8 0; fits 0 = 0; sheet 0 8 3; fits 0 = 0; bind 0 1 -1; bind 0 1 -1; fits 0 = 0; put 0 1 30; fits 0 = 0;"
            + "put 0 0 30; fits 0 = 2; sheet 1 32 1; put 1 0 30; fits 1 = 1; sheet 1 32 0; fits 1 = 0; hand 0 0 11; fits 0 = 0;"
            + "put 0 0 31; fits 0 = 1; put 0 1 31; fits 0 = 2; judge 0 = 0; hand 0 2 0; change 0 2 0; fits 0 = 2");
        StringBuilder nine = new StringBuilder("sheet 3 16 9; ");
        for (int i = 0; i < 9; i++) {
            nine.append("put 3 ").append(i).append(" 30; ");
        }
        Script.run(EIGHT + nine + "fits 3 = 8; put 3 7 31; fits 3 = 7");
        Script.run("bind 0 1 -1; bind 0 23 -1; hand 2 0 0; hand 3 1 0; sheet 0 8 1; put 0 0 30; fits 0 = 1; sheet 1 8 4; put 1 0 30; fits 1 = 2;"
            + "put 1 2 -1; fits 1 = 2");
    }

    /** Promise 29, by the Terms: "FITS: a SHEET tells CROSSINGS of KNOTS 0, 1, .. as they would be, were they BOUND now by those who bound them" */
    static void fitsAtTheEnds() {
        Script.run("sheet 0 16 1; bind 0 1 -1; hand 0 0 0; hand 1 1 0; fits 0 = 1; hand 0 0 99; hand 1 1 99; fits 0 = 0; put 0 0 198;"
            + "fits 0 = 1; put 0 0 -1; fits 0 = 0");
    }

    /** Promise 29: "FITS, by a SHEET. BEYOND." SHEETS are 0 to 3. */
    static void fitsBeyond() {
        Script.run("fits 4 = BEYOND; fits -1 = BEYOND; fits MIN = BEYOND; fits MAX = BEYOND; sheet 0 8 1; sheet 3 8 1; fits 0 = 0; fits 3 = 0;"
            + "told 1 = 4");
    }

    /** Promise 29: "NONE: the SHEET is missing." */
    static void fitsMissing() {
        Script.run("fits 0 = NONE; fits 3 = NONE; sheet 3 8 1; fits 3 = 0; sheet 3 0 0; fits 3 = NONE; told 1 = 0; told 2 = 3");
    }
}
