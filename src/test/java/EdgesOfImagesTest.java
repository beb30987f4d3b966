/** Edges that the document names, promises 38 to 43: image, restore, tell, check, count, told. */
public final class EdgesOfImagesTest {
    private static final String EIGHT = "bind 0 1 -1; ".repeat(8);

    public static void main(String[] args) {
        Script.runAll(EdgesOfImagesTest.class);
    }

    /** Promise 38: "in place of one ahead: how often that was done." Neither restore() nor an ERROR counts. */
    static void imageCounts() {
        Script.run("restore = NONE; image = 1; image = 2; restore = 0; image = 3; people 9; image = 4");
    }

    /** Promise 38: "in place of one ahead" - the later one is the one that is restored. */
    static void imageInPlace() {
        Script.run("year 1; hand 0 0 1; image; year 2; hand 0 0 2; image; year 3; hand 0 0 3; restore = 2; ofPerson 0 0 = 2; restore = 2");
        Script.run(EIGHT + "type v; text 0; image; image; restore; count 1 = 8; law 0 5 0 0 = 5");
    }

    /** Promise 38: "All (but SHEETS, THE TRACE, what told() tells, and how often this was done) is kept as an IMAGE" - the full. */
    static void imageOfAllThatIsFull() {
        StringBuilder full = new StringBuilder("people 6; year 999; seed MIN; type v-k; text 0; type d=l; text 1; ");
        for (int i = 0; i < 8; i++) {
            full.append("bind ").append(10 * (i % 7) + i).append(' ').append(i % 2 == 0 ? 54 : 45).append(' ').append(i - 1).append("; ");
            full.append("change ").append(i).append(" 0 ").append(191 + i).append("; change ").append(i).append(" 1 ").append(i);
            full.append("; change ").append(i).append(" 3 ").append(90 + i).append("; ");
        }
        full.append("change 7 2 0; ");
        for (int i = 0; i < 6; i++) {
            full.append("hand ").append(i).append(" 0 ").append(94 + i).append("; hand ").append(i).append(" 1 ").append(i).append("; ");
        }
        full.append("hand 5 2 0; ").append("tell 9; ".repeat(20)).append("type 5").append("+1".repeat(24)).append("; feed 48 1; ");
        CrossedKnots x = Script.run(full.toString());
        String facts = Due.facts(x);
        Script.on(x, "image = 1; image = 2; check = 1; text 0; year 0; seed 0; type 0; text 1; hand 5 2 1; restore = 999");
        Due.same("the full house", Due.facts(x), facts);
        Script.on(x, "law 0 9 4 0 = 5; law 1 7 0 7 = 1; law 1 7 0 6 = 0; tell 1 = FULL; feed 0 1 = FULL; text 0 = 1; law 0 0 0 0 = 38;"
            + "bind 0 1 -1 = FULL");
    }

    /** Promise 38: "All (but SHEETS, THE TRACE, what told() tells, and how often this was done)" - these stay as they are. */
    static void notInTheImage() {
        Script.run("bind 0 1 -1; sheet 0 8 1; sheet 1 8 1; voice 0 0 1; people 9; image = 1; put 0 0 30; sheet 1 0 0; sheet 2 32 0;"
            + "voice 0 3 1; people 9; image = 2; restore; judge 0 = -1; judge 1 = NONE; judge 2 = 0; count 8 = 4; trace 0 = 13;"
            + "told 1 = 2; told 2 = 1; image = 3");
    }

    /** Promise 38, by the Terms: "YEARS by draws: z is told (1 at first)" - it is kept, too, and draws are the same again. */
    static void imageKeepsZ() {
        CrossedKnots x = Script.run("seed 77; image");
        int sum = x.loose(40);
        int there = x.count(4);
        int z = x.count(9);
        Script.on(x, "restore = 0; count 9 = 77; loose 40 = " + sum + "; count 4 = " + there + "; count 9 = " + z);
    }

    /** Promise 39: "All is as the IMAGE has it, which stays: YEAR." More than once; the YEAR at its edges. */
    static void restoreTwice() {
        Script.run("year 999; image; bind 0 1 -1; year 0; restore = 999; count 1 = 0; bind 69 1 -1 = 0; years 1 = STATE; year 5;"
            + "change 0 2 0; hand 0 0 1; restore = 999; count 1 = 0; ofPerson 0 0 = 10; count 2 = 999");
        Script.run("bind 0 1 -1; image; undo 0 1; restore = 0; undo 0 1 = 0; restore = 0; ofKnot 0 7 = 1; change 0 3 9; restore; ofKnot 0 8 = 0");
    }

    /** Promise 39: "All is as the IMAGE has it" - with fewer, and with more of PEOPLE and KNOTS than there are. */
    static void restoreFewerAndMore() {
        Script.run("people 2; image; people 6; bind 0 54 -1; restore; count 0 = 2; count 1 = 0; count 4 = 3; ofPerson 2 0 = BEYOND");
        Script.run("people 6; hand 5 0 77; image; people 2; restore; count 0 = 6; ofPerson 5 0 = 77; count 4 = 63");
        Script.run(EIGHT + "image; year 1; restore; count 1 = 8; count 5 = 255");
        Script.run("image; " + EIGHT + "restore; count 1 = 0; count 5 = 0; ofKnot 0 0 = BEYOND; bind 0 1 -1 = 0");
    }

    /** Promise 39: "All is as the IMAGE has it" - a house without TEXTS, with an empty TAPE, with nothing that waits. */
    static void restoreTheEmpty() {
        Script.run("image; type v; text 0; type 1; text 1; type 99; tell 5; restore = 0; law 0 5 0 0 = 6; law 1 5 0 0 = 0; count 6 = 0;"
            + "count 7 = 0; text 0 = -10; check = 0");
    }

    /** Promise 39: "All is as the IMAGE has it" - whatever a KNOT has become, and whatever waits. */
    static void restoreKnotsAndWhatWaits() {
        Script.run("year 3; bind 48 1 -1; change 0 3 7; image; become 0 65; change 0 0 99; change 0 1 99; change 0 3 99; change 0 2 0; restore = 3;"
            + "ofKnot 0 0 = 4; ofKnot 0 1 = 8; ofKnot 0 2 = 0; ofKnot 0 3 = 1; ofKnot 0 4 = 30; ofKnot 0 5 = 3; ofKnot 0 6 = -1; ofKnot 0 7 = 1;"
            + "ofKnot 0 8 = 7");
        Script.run("tell 128; image; check = 0; tell 5; tell 6; restore; count 7 = 1; check = 0; restore; tell 136 = 2; check = 0");
    }

    /** Promise 39: "NONE: there is none." Nothing is changed by it. */
    static void restoreNone() {
        Script.run("year 5; hand 0 0 77; bind 0 1 -1; restore = NONE; count 2 = 5; ofPerson 0 0 = 77; count 1 = 1; told 2 = 1; image = 1;"
            + "restore = 5; told 2 = 1");
    }

    /** Promise 40: "One more number waits: how many. FULL: 20 wait." Any number; a refused one does not wait. */
    static void tellTwenty() {
        StringBuilder right = new StringBuilder();
        for (int i = 1; i <= 20; i++) {
            right.append("tell ").append(120 + 8 * i).append(" = ").append(i).append("; ");
        }
        Script.run(right + "tell 288 = FULL; tell MIN = FULL; count 7 = 20; check = 0; count 7 = 0; tell MIN = 1; tell MAX = 2; told 4 = 2");
        Script.run("tell 9; ".repeat(19) + "tell 9 = 20; tell 9 = FULL; check = 1; tell 9 = 1");
    }

    /** Promise 41: "The numbers that wait (none do then) are all HANDS together behind 1, 2, .. YEARS: 0" - none at all, too. */
    static void checkNoneToTwenty() {
        Script.run("check = 0; tell 128; check = 0; count 7 = 0; check = 0; tell 128; tell 136; check = 0; count 2 = 0; count 3 = 120");
        Script.run("hand 0 2 0; hand 1 2 0; hand 2 2 0; hand 3 2 0; tell 120; tell 120; check = 0");
    }

    /** Promise 41: "else 1 and the place (from 0) of the first that isn't so." The first, the last, and either of two. */
    static void checkThePlace() {
        Script.run("tell 120; check = 1; count 7 = 0; tell 128; tell 135; tell 144; check = 2; count 7 = 0; tell 127; tell 135; check = 1;"
            + "tell 128; tell 136; tell 144; tell 153; check = 4; check = 0");
        StringBuilder wrong = new StringBuilder();
        for (int i = 1; i <= 19; i++) {
            wrong.append("tell ").append(120 + 8 * i).append("; ");
        }
        Script.run(wrong + "tell 281; check = 20; count 7 = 0");
        Script.run("tell MIN; check = 1; tell MAX; check = 1; tell BEYOND; check = 1; told 1 = 0");
    }

    /** Promise 41, by the Terms: "(All this is only thought, YEAR beyond 999, too" - behind the last YEAR, held at 99. */
    static void checkBeyond999() {
        Script.run("people 2; year 999; type v+(y=0); text 0; tell 60; tell 64; tell 64; check = 0; count 2 = 999; count 3 = 60");
        Script.run("people 2; hand 0 0 98; tell 152; tell 155; check = 0");
    }

    /** Promise 42: "0 PEOPLE, 1 KNOTS, 2 YEAR, 3 all HANDS together" - each at its edges. */
    static void countPeopleKnotsYearHands() {
        Script.run("people 2; count 0 = 2; people 6; count 0 = 6; count 1 = 0; year 999; count 2 = 999; year 0; count 2 = 0");
        Script.run(EIGHT + "count 1 = 8; undo 0 1; count 1 = 8");
        for (int hand : new int[] {0, 99}) {
            StringBuilder hands = new StringBuilder("people 6; ");
            for (int i = 0; i < 6; i++) {
                hands.append("hand ").append(i).append(" 0 ").append(hand).append("; hand ").append(i).append(" 1 ").append(hand).append("; ");
            }
            Script.run(hands + "count 3 = " + 12 * hand + "; hand 0 2 0; count 3 = " + 12 * hand + "; years 60 = " + (hand == 0 ? 600 : 1188));
        }
    }

    /** Promise 42: "4 those who are THERE, as a set, 5 KNOTS that are TIED, as a set" - none to all. */
    static void countSets() {
        Script.run("people 6; count 4 = 63; hand 0 2 0; count 4 = 62; hand 5 2 0; count 4 = 30; hand 1 2 0; hand 2 2 0; hand 3 2 0; hand 4 2 0;"
            + "count 4 = 0");
        Script.run("count 5 = 0; " + EIGHT + "count 5 = 255; undo 0 1; count 5 = 254; undo 7 1; count 5 = 126");
    }

    /** Promise 42: "6 bytes of THE TAPE, 7 numbers that wait, 8 BODIES in THE TRACE, 9 z (any number)." */
    static void countTapeWaitingTraceZ() {
        Script.run("count 6 = 0; feed 0 1; count 6 = 1; count 7 = 0; tell 0; count 7 = 1; " + "tell 0; ".repeat(19) + "count 7 = 20; tell 0;"
            + "count 7 = 20; count 8 = 0; bind 60 1 -1; voice 0 3 0; count 8 = 9; voice 0 0 0; count 8 = 1; seed NONE; count 9 = NONE;"
            + "seed MAX; count 9 = MAX; told 2 = 0; told 1 = 0");
    }

    /** Promise 42: "BEYOND." 0 to 9 are counted, no more. */
    static void countBeyond() {
        Script.run("count -1 = BEYOND; count 10 = BEYOND; count MIN = BEYOND; count MAX = BEYOND; count 0 = 4; count 9 = 1; told 1 = 4");
    }

    /** Promise 43: "How many acts have answered an ERROR LOW - k (k 1 .. 5); BEYOND: another k (counted, too)." */
    static void toldOneToFive() {
        Script.run("told 1 = 0; told 0 = BEYOND; told 1 = 1; told 6 = BEYOND; told 1 = 2; told -1 = BEYOND; told MIN = BEYOND; told MAX = BEYOND;"
            + "told 1 = 5; told 2 = 0; restore = NONE; told 2 = 1; told 3 = 0; years 60; year 999; years 1 = STATE; told 3 = 1; told 4 = 0;"
            + "feed 0 8; feed 0 8; feed 0 8; feed 0 8; feed 0 8; feed 0 8; feed 0 8 = FULL; told 4 = 1; told 5 = 0; bind 0 1 -1;"
            + "as 0 6 = KIND; told 5 = 1; told 1 = 5");
    }

    /** Promise 43, by the Terms: "Each act tells its ERRORS in the order in which they are asked" - one alone is told, the first. */
    static void errorsInTheirOrder() {
        Script.run("bind 0 1 -1; people 1 = BEYOND; told 3 = 0; " + "bind 0 1 -1; ".repeat(7) + "hand 0 2 0; bind 70 1 -1 = BEYOND; told 4 = 0;"
            + "bind 0 1 -1 = FULL; told 3 = 0; undo 9 1 = BEYOND; undo 0 1 = STATE; told 3 = 1; as 0 7 = BEYOND; told 5 = 0; year 999;"
            + "years 61 = BEYOND; loose 41 = BEYOND; told 3 = 1; last 8 = BEYOND; pair 0 2 = BEYOND; waitFor 8 = BEYOND; whose 31 2 = BEYOND;"
            + "fits 4 = BEYOND; put 4 0 0 = BEYOND; move 4 0 0 0 0 = BEYOND; loads 4 = BEYOND; judge 4 = BEYOND; told 2 = 0;"
            + "sheet 0 9 -1 = BEYOND; told 3 = 1; hand 1 2 0; hand 2 2 0; hand 3 2 0; miss 21 0 = BEYOND; told 2 = 0; told 1 = 17");
    }

    /** Promise 43: "How many acts have answered an ERROR" - not a FAULT, not a NONE of check() or judge(), not z. */
    static void toldNoOther() {
        Script.run("text 0 = -10; type x; text 0 = -10; tell 1; check = 1; sheet 0 8 1; judge 0 = 0; seed BEYOND; seed 1 = BEYOND; loads 0 = 0;"
            + "bind 0 1 -1; voice 0 0 STATE = STATE; told 1 = 0; told 2 = 0; told 3 = 0; told 4 = 0; told 5 = 0");
    }

    /** Promise 43, by the Terms: "ERRORS are answers below -1000000000: LOW is -1000000000; LOW - 1 BEYOND, LOW - 2 NONE, LOW - 3 STATE, LOW - 4 FULL, LOW - 5 KIND." By their numbers. */
    static void errorsByTheirNumbers() {
        Script.run("people 7 = -1000000001; restore = -1000000002; sheet 0 8 -1 = -1000000003; bind 0 1 -1; as 0 6 = -1000000005;"
            + "tell 0; ".repeat(20) + "tell 0 = -1000000004; told 1 = 1; told 2 = 1; told 3 = 1; told 4 = 1; told 5 = 1");
    }
}
