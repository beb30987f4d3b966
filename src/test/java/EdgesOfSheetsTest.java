/** Edges that the document names, promises 30 to 37: seed, voice, trace, sheet, put, move, loads, judge. */
public final class EdgesOfSheetsTest {
    private static final String EIGHT = "bind 0 1 -1; ".repeat(8);

    public static void main(String[] args) {
        Script.runAll(EdgesOfSheetsTest.class);
    }

    /** Promise 30: "z becomes v: what it was (any number)." The least and the most; what looks like an ERROR is none. */
    static void seedAnyNumber() {
        Script.run("seed MIN = 1; count 9 = MIN; seed MAX = MIN; seed 0 = MAX; seed -1 = 0; seed BEYOND = -1; seed KIND = BEYOND;"
            + "seed 1 = KIND; count 9 = 1; told 1 = 0; told 5 = 0");
    }

    /** Promise 31: "A VOICE of a KNOT: any number." What looks like an ERROR is none. */
    static void voiceAnyNumber() {
        Script.run("bind 0 1 -1; voice 0 0 BEYOND = BEYOND; voice 0 2 NONE = NONE; voice 0 0 MIN = MIN; voice 0 2 MAX = MAX; told 1 = 0;"
            + "told 2 = 0");
    }

    /** Promise 31: "BEYOND." No such KNOT, no such act; THE TRACE stays then. */
    static void voiceBeyond() {
        Script.run("voice 0 0 0 = BEYOND; bind 0 1 -1; voice 0 0 7 = 7; voice 0 1 7 = 14; voice 0 -1 7 = BEYOND; voice 0 4 7 = BEYOND;"
            + "voice 1 0 7 = BEYOND; voice -1 0 7 = BEYOND; voice MIN 0 7 = BEYOND; voice MAX 0 7 = BEYOND; voice 0 MIN 7 = BEYOND;"
            + "voice 0 MAX 7 = BEYOND; count 8 = 2; trace 0 = 11; trace 1 = 10; voice 0 3 7 = 9; count 8 = 4; told 1 = 9");
        Script.run(EIGHT + "voice 7 0 0 = 7; voice 8 0 0 = BEYOND");
    }

    /** Promise 31, by the Terms: "VOICES of a KNOT, with a number x (ints that go round)" - in each BODY that adds, takes or makes more of it. */
    static void voiceGoesRound() {
        Script.run("bind 9 1 -1; bind 9 1 -1; voice 1 0 MAX = MIN; voice 1 0 -1 = 0; voice 1 2 MIN = 2147483639; voice 1 1 MAX = 0;"
            + "voice 1 1 1073741823 = MIN; voice 1 3 MAX = 2147483638; become 1 19; voice 1 0 MAX = MIN; voice 1 0 715827882 = -2147483647;"
            + "become 1 30; voice 1 2 MIN = MIN; voice 1 2 MAX = -2147483647; become 1 50; voice 1 1 MAX = " + (2 * (Integer.MIN_VALUE + 1) - 1));
    }

    /** Promise 31, by the Terms: "n is the number, m as told: 0 binds, 1 tightens, 2 slips, 3 tells." The KNOT's number from 0 to 7, m from 0 to 9. */
    static void voiceNumbers() {
        for (int knot = 0; knot < 8; knot++) {
            Script.run(EIGHT + "voice " + knot + " 0 100 = " + (100 + knot) + "; voice " + knot + " 1 100 = " + (200 + 2 * knot));
        }
        for (int m = 0; m <= 9; m++) {
            Script.run("bind " + m + " 1 -1; voice 0 2 5 = " + (5 - m));
        }
    }

    private static void voiced(int km, int knot, int act, int x, int want, int... bodies) {
        StringBuilder run = new StringBuilder(EIGHT);
        run.append("become ").append(knot).append(' ').append(km).append("; voice ").append(knot).append(' ').append(act);
        run.append(' ').append(x).append(" = ").append(want).append("; count 8 = ").append(bodies.length);
        for (int i = 0; i < bodies.length; i++) {
            run.append("; trace ").append(i).append(" = ").append(bodies[i]);
        }
        Script.run(run.append("; trace ").append(bodies.length).append(" = NONE").toString());
    }

    /** Promise 31, by the Terms: "BODIES: KNOT: 10 binds: x + n. 11 tightens: binds(x) * 2. 12 slips: x - m. 13 tells: tightens(x) ^ slips(x)." */
    static void voicesOfKnot() {
        voiced(4, 3, 0, 10, 13, 10);
        voiced(4, 3, 1, 10, 26, 11, 10);
        voiced(4, 3, 2, 10, 6, 12);
        voiced(4, 3, 3, 10, 26 ^ 6, 13, 11, 10, 12);
    }

    /** Promise 31, by the Terms: "BOW: 20 binds: super.binds(x) * 3. SLIP: 30 tightens: super.tightens(x) - slips(1). LACE: 40 slips: -super.slips(x)." */
    static void voicesOfBowSlipLace() {
        voiced(14, 3, 0, 10, 39, 20, 10);
        voiced(14, 3, 1, 10, 78, 11, 20, 10);
        voiced(14, 3, 2, 10, 6, 12);
        voiced(14, 3, 3, 10, 78 ^ 6, 13, 11, 20, 10, 12);
        voiced(24, 3, 0, 10, 13, 10);
        voiced(24, 3, 1, 10, 26 + 3, 30, 11, 10, 12);
        voiced(24, 3, 2, 10, 6, 12);
        voiced(24, 3, 3, 10, 29 ^ 6, 13, 30, 11, 10, 12, 12);
        voiced(34, 3, 0, 10, 13, 10);
        voiced(34, 3, 1, 10, 26, 11, 10);
        voiced(34, 3, 2, 10, -6, 40, 12);
        voiced(34, 3, 3, 10, 26 ^ -6, 13, 11, 10, 40, 12);
    }

    /** Promise 31, by the Terms: "HITCH: 50 tells: super.tells(x) - binds(2). LOOP: 60 tightens: super.tightens(x + 1)." */
    static void voicesOfHitchLoop() {
        voiced(44, 3, 0, 10, 39, 20, 10);
        voiced(44, 3, 1, 10, 78, 11, 20, 10);
        voiced(44, 3, 2, 10, 6, 12);
        voiced(44, 3, 3, 10, (78 ^ 6) - 15, 50, 13, 11, 20, 10, 12, 20, 10);
        voiced(54, 3, 0, 10, 13, 10);
        voiced(54, 3, 1, 10, 28 + 3, 60, 30, 11, 10, 12);
        voiced(54, 3, 2, 10, 6, 12);
        voiced(54, 3, 3, 10, 31 ^ 6, 13, 60, 30, 11, 10, 12, 12);
    }

    /** Promise 31, by the Terms: "PARCEL: 70 slips: super.slips(x) ^ n. 71 tells: tightens(x) - super.tells(x)." */
    static void voicesOfParcel() {
        voiced(64, 3, 0, 10, 13, 10);
        voiced(64, 3, 1, 10, 26, 11, 10);
        voiced(64, 3, 2, 10, -6 ^ 3, 70, 40, 12);
        voiced(64, 3, 3, 10, 26 - (26 ^ (-6 ^ 3)), 71, 11, 10, 13, 11, 10, 70, 40, 12);
    }

    /**
     * Promise 31, by the Terms: "binds(..) is the BODY of its KIND, or of the next KIND above that has one; super.binds(..) that from
     * the KIND above the BODY's on." The KIND itself, one above it, two above it.
     */
    static void voicesOfKindsAbove() {
        voiced(60, 0, 2, 1, -1, 70, 40, 12);
        voiced(60, 0, 1, 1, 2, 11, 10);
        voiced(50, 0, 1, 1, 3, 60, 30, 11, 10, 12);
        voiced(50, 0, 2, 1, 1, 12);
        voiced(40, 0, 0, 1, 3, 20, 10);
        voiced(40, 0, 1, 1, 6, 11, 20, 10);
        voiced(30, 0, 2, 1, -1, 40, 12);
    }

    /**
     * Promise 32, by the Terms: "THE TRACE: the numbers of BODIES of the latest voice(), as they began (what stands left is worked out
     * first), the first 40." No VOICE has more than nine.
     */
    static void traceOfTheLatest() {
        Script.run("bind 60 1 -1; voice 0 3 1; count 8 = 9; trace 0 = 71; trace 1 = 11; trace 2 = 10; trace 3 = 13; trace 4 = 11; trace 5 = 10;"
            + "trace 6 = 70; trace 7 = 40; trace 8 = 12; trace 9 = NONE; voice 0 2 1; count 8 = 3; trace 0 = 70; trace 2 = 12; trace 3 = NONE");
    }

    /** Promise 32: "THE TRACE's i-th. NONE: there is none such." From 0 on; of the latest voice() alone. */
    static void traceToItsEnd() {
        Script.run("trace 0 = NONE; trace -1 = NONE; bind 0 1 -1; voice 0 3 1; trace 0 = 13; trace 3 = 12; trace 4 = NONE; trace -1 = NONE;"
            + "trace 39 = NONE; trace 40 = NONE; trace MIN = NONE; trace MAX = NONE; voice 0 0 1; trace 0 = 10; trace 1 = NONE; count 8 = 1;"
            + "told 2 = 9; told 1 = 0");
    }

    /** Promise 33: "A SHEET has n numbers, all 0, of so many bits (8, 16, 32" - no other bits. */
    static void sheetBits() {
        for (int bits : new int[] {8, 16, 32}) {
            Script.run("sheet 0 " + bits + " 1 = 1; sheet 3 " + bits + " 40 = 1; put 0 0 9 = 1; sheet 0 " + bits + " 1 = 1; bind 0 1 -1;"
                + "change 0 0 0; judge 0 = -1");
        }
        for (int bits : new int[] {-8, -1, 1, 7, 9, 15, 17, 24, 31, 33, 64, Integer.MIN_VALUE, Integer.MAX_VALUE}) {
            Script.run("sheet 0 " + bits + " 1 = BEYOND; judge 0 = NONE");
        }
    }

    /** Promise 33: "BEYOND." SHEETS are 0 to 3. */
    static void sheetBeyond() {
        Script.run("sheet -1 8 1 = BEYOND; sheet 4 8 1 = BEYOND; sheet MIN 8 1 = BEYOND; sheet MAX 8 1 = BEYOND; sheet 4 0 0 = BEYOND;"
            + "sheet -1 0 0 = BEYOND; told 1 = 6");
    }

    /** Promise 33, by the Terms: "at most 40 numbers" - 0 to 40; a SHEET of none is not missing. */
    static void sheetZeroToForty() {
        Script.run("sheet 0 8 0 = 1; judge 0 = -1; put 0 0 1 = BEYOND; sheet 0 8 1 = 1; judge 0 = 0; put 0 0 1 = 1; put 0 1 1 = BEYOND;"
            + "sheet 0 8 40 = 1; put 0 39 1 = 1; put 0 40 1 = BEYOND; sheet 0 8 41 = BEYOND; put 0 39 1 = 1; sheet 0 16 MAX = BEYOND;"
            + "put 0 39 1 = 1; told 1 = 5");
    }

    /** Promise 33: "STATE: n is below 0 (ahead of BEYOND of n)." No such SHEET or bits comes first; the SHEET stays as it was. */
    static void sheetBelowZero() {
        Script.run("sheet 0 8 -1 = STATE; sheet 0 16 MIN = STATE; judge 0 = NONE; sheet 4 8 -1 = BEYOND; sheet 0 9 -1 = BEYOND;"
            + "sheet 0 32 1 = 1; put 0 0 30; bind 0 1 -1; sheet 0 8 -1 = STATE; sheet 0 8 41 = BEYOND; sheet 0 9 1 = BEYOND; judge 0 = -1;"
            + "told 3 = 3; told 1 = 4");
    }

    /** Promise 33: "0: it is missing, n doesn't matter): 1." Below 0 and above 40, too. */
    static void sheetIsMissing() {
        for (int n : new int[] {0, 40, 41, -1, Integer.MIN_VALUE, Integer.MAX_VALUE}) {
            Script.run("sheet 0 0 " + n + " = 1; sheet 0 8 2; put 0 0 1 = 1; sheet 0 0 " + n + " = 1; put 0 0 1 = NONE; judge 0 = NONE;"
                + "told 1 = 0; told 3 = 0");
        }
    }

    /** Promise 33: "A SHEET has n numbers, all 0" - anew, whatever stood there; the other SHEETS stay. */
    static void sheetAnew() {
        Script.run("bind 0 1 -1; bind 0 1 -1; sheet 0 8 2; sheet 1 8 2; put 0 0 30; put 0 1 30; put 1 0 30; put 1 1 30; sheet 0 8 1;"
            + "sheet 0 8 2; fits 0 = 0; fits 1 = 2; change 0 0 0; change 1 0 0; judge 0 = -1; sheet 0 0 0; sheet 0 32 2; judge 0 = -1");
    }

    /** Promise 34: "Number i of a SHEET becomes v (its lowest bits): 1." Of 8, 16 and 32 bits. */
    static void putLowestBits() {
        Script.run("bind 0 1 -1; sheet 0 8 1; sheet 1 16 1; sheet 2 32 1; put 0 0 286 = 1; judge 0 = -1; put 1 0 286 = 1; judge 1 = 0;"
            + "put 1 0 65566 = 1; judge 1 = -1; put 2 0 65566 = 1; judge 2 = 0; put 0 0 65566 = 1; judge 0 = -1; put 0 0 -226 = 1;"
            + "judge 0 = -1; put 1 0 -65506 = 1; judge 1 = -1; put 2 0 30 = 1; judge 2 = -1; put 2 0 -226 = 1; judge 2 = 0");
        Script.run("bind 0 1 -1; change 0 3 9; sheet 0 8 1; put 0 0 MIN = 1; loads 0 = 1; ofKnot 0 8 = 0; put 0 0 MAX = 1; loads 0 = 0;"
            + "sheet 1 16 1; put 1 0 MIN; loads 1 = 1; put 1 0 MAX; loads 1 = 0; sheet 2 32 1; put 2 0 MIN; loads 2 = 0");
    }

    /** Promise 34, by the Terms: "SHEETS 0 .. 3 are rows of 8, 16, 32 bits" - 127 is the most that 8 bits hold with a sign, as Java's byte. */
    static void putEightBitsWithTheirSign() {
        Script.run("bind 0 1 -1; sheet 0 8 1; sheet 1 16 1; change 0 0 127; put 0 0 127; judge 0 = -1; change 0 0 128; put 0 0 128;"
            + "put 1 0 128; judge 0 = 0; judge 1 = -1");
    }

    /** Promise 34: "BEYOND: no such SHEET. NONE: it is missing. BEYOND: no such number." In this order. */
    static void putErrorsInOrder() {
        Script.run("put -1 0 0 = BEYOND; put 4 0 0 = BEYOND; put 0 -1 0 = NONE; put 0 0 0 = NONE; put 3 40 0 = NONE; put MIN -1 0 = BEYOND;"
            + "put MAX 0 0 = BEYOND; sheet 0 8 2; put 0 -1 0 = BEYOND; put 0 2 0 = BEYOND; put 0 1 0 = 1; put 0 MIN 0 = BEYOND;"
            + "put 0 MAX 0 = BEYOND; put 0 0 0 = 1; told 1 = 8; told 2 = 3");
    }

    private static String laid(int sheet, int bits, int... numbers) {
        StringBuilder run = new StringBuilder("sheet " + sheet + " " + bits + " " + numbers.length + "; ");
        for (int i = 0; i < numbers.length; i++) {
            run.append("put ").append(sheet).append(' ').append(i).append(' ').append(numbers[i]).append("; ");
        }
        return run.toString();
    }

    /** Numbers of 0 to 99 of a SHEET, seen as LOADS; no more than eight. */
    private static String seen(int sheet, int... numbers) {
        StringBuilder run = new StringBuilder("loads " + sheet + " = " + numbers.length + "; ");
        for (int i = 0; i < numbers.length; i++) {
            run.append("ofKnot ").append(i).append(" 8 = ").append(numbers[i]).append("; ");
        }
        return run.toString();
    }

    /** Promise 35: "come to another one (or the same), from its number j on, as they all were: n." Over themselves, both ways. */
    static void moveOverItself() {
        for (int bits : new int[] {8, 16, 32}) {
            String row = EIGHT + laid(0, bits, 1, 2, 3, 4, 5);
            Script.run(row + "move 0 0 0 1 4 = 4; " + seen(0, 1, 1, 2, 3, 4));
            Script.run(row + "move 0 1 0 0 4 = 4; " + seen(0, 2, 3, 4, 5, 5));
            Script.run(row + "move 0 0 0 0 5 = 5; " + seen(0, 1, 2, 3, 4, 5));
            Script.run(row + "move 0 4 0 0 1 = 1; " + seen(0, 5, 2, 3, 4, 5));
            Script.run(row + "move 0 0 0 2 3 = 3; " + seen(0, 1, 2, 1, 2, 3));
        }
    }

    /** Promise 35: "n numbers of a SHEET, from number i on, come to another one" - all of them, and none at all. */
    static void moveAllAndNone() {
        String rows = EIGHT + laid(0, 16, 1, 2, 3) + laid(1, 16, 7, 8, 9, 10);
        Script.run(rows + "move 0 0 1 0 3 = 3; " + seen(1, 1, 2, 3, 10) + seen(0, 1, 2, 3));
        Script.run(rows + "move 0 0 1 1 3 = 3; " + seen(1, 7, 1, 2, 3));
        Script.run(rows + "move 0 0 1 0 0 = 0; " + seen(1, 7, 8, 9, 10));
        Script.run(rows + "move 0 3 1 4 0 = 0; " + seen(1, 7, 8, 9, 10) + seen(0, 1, 2, 3));
        Script.run(rows + "move 1 3 0 2 1 = 1; " + seen(0, 1, 2, 10));
        Script.run("sheet 0 8 0; sheet 1 8 0; move 0 0 1 0 0 = 0; move 0 0 0 0 0 = 0; move 0 0 1 0 1 = BEYOND");
        Script.run("bind 0 1 -1; sheet 0 8 40; sheet 1 8 40; put 0 39 77; move 0 0 1 0 40 = 40; move 1 39 1 0 1 = 1; loads 1 = 1;"
            + "ofKnot 0 8 = 77; move 0 0 1 0 41 = BEYOND; move 0 1 1 0 40 = BEYOND; move 0 0 1 1 40 = BEYOND");
    }

    /** Promise 35: "BEYOND: n, i, or j is below 0, or they don't stand there." Each by one; nothing is moved then. */
    static void moveBeyond() {
        String rows = EIGHT + laid(0, 32, 1, 2, 3) + laid(1, 32, 7, 8);
        int[][] wrong = {{0, 0, -1}, {-1, 0, 1}, {0, -1, 1}, {-1, -1, -1}, {-1, 0, 0}, {0, -1, 0}, {0, 0, 3}, {2, 0, 2}, {3, 0, 1}, {0, 1, 2},
            {0, 2, 1}, {4, 0, 0}, {0, 3, 0}, {Integer.MAX_VALUE, 0, 1}, {0, Integer.MAX_VALUE, 1}, {0, 0, Integer.MAX_VALUE},
            {1, 1, Integer.MAX_VALUE}, {Integer.MAX_VALUE, 1, Integer.MAX_VALUE}, {Integer.MIN_VALUE, 0, 1}, {0, Integer.MIN_VALUE, 1},
            {0, 0, Integer.MIN_VALUE}};
        for (int[] w : wrong) {
            Script.run(rows + "move 0 " + w[0] + " 1 " + w[1] + " " + w[2] + " = BEYOND; " + seen(1, 7, 8) + seen(0, 1, 2, 3));
        }
        Script.run(rows + "move 0 1 1 0 2 = 2; " + seen(1, 2, 3));
    }

    /** Promise 35: "BEYOND: no such SHEET. NONE: one is missing. KIND: they are of unlike bits." In this order, ahead of places. */
    static void moveErrorsInOrder() {
        Script.run("move 4 0 0 0 0 = BEYOND; move 0 0 4 0 0 = BEYOND; move -1 0 0 0 0 = BEYOND; move 0 0 -1 0 0 = BEYOND;"
            + "move MIN 0 0 0 0 = BEYOND; move 0 0 MAX 0 0 = BEYOND; move 0 0 0 0 0 = NONE; sheet 0 8 2; move 0 0 1 0 1 = NONE;"
            + "move 1 0 0 0 1 = NONE; move 0 -1 1 0 1 = NONE; move 4 0 1 0 1 = BEYOND; move 1 0 4 0 1 = BEYOND; sheet 1 16 2;"
            + "move 0 0 1 0 1 = KIND; move 1 0 0 0 1 = KIND; move 0 -1 1 0 1 = KIND; move 0 0 1 0 -1 = KIND; move 0 0 1 0 99 = KIND;"
            + "move 0 0 1 0 0 = KIND; sheet 1 32 2; move 0 0 1 0 1 = KIND; sheet 0 16 2; move 0 0 1 0 1 = KIND; sheet 1 16 2;"
            + "move 0 0 1 0 1 = 1; told 1 = 8; told 2 = 4; told 5 = 8");
    }

    /**
     * Promise 36: "Numbers of a SHEET become LOADS of KNOTS 0, 1, ..: how many, up to the first that is not 0 to 99 (no ERROR then), or
     * for which there is no KNOT."
     */
    static void loadsUpToTheFirst() {
        String knots = "bind 0 1 -1; ".repeat(3) + "change 0 3 5; change 1 3 6; change 2 3 7; ";
        Script.run(knots + laid(0, 32, 0, 99, 50) + seen(0, 0, 99, 50));
        Script.run(knots + laid(0, 32, 1, 100, 2) + "loads 0 = 1; ofKnot 0 8 = 1; ofKnot 1 8 = 6; ofKnot 2 8 = 7; told 1 = 0; told 3 = 0");
        Script.run(knots + laid(0, 32, 1, 2, -1) + "loads 0 = 2; ofKnot 0 8 = 1; ofKnot 1 8 = 2; ofKnot 2 8 = 7; told 1 = 0");
        Script.run(knots + laid(0, 8, 100, 1, 2) + "loads 0 = 0; ofKnot 0 8 = 5; ofKnot 1 8 = 6");
        Script.run(knots + laid(0, 16, 1, 2, 3, 4) + seen(0, 1, 2, 3) + "told 1 = 0");
        Script.run(knots + laid(0, 16, 1) + "loads 0 = 1; ofKnot 0 8 = 1; ofKnot 1 8 = 6");
        Script.run(knots + laid(0, 16) + "loads 0 = 0; ofKnot 0 8 = 5");
        Script.run(laid(0, 16, 1, 2) + "loads 0 = 0; told 1 = 0");
        Script.run(EIGHT + laid(0, 8, 1, 2, 3, 4, 5, 6, 7, 8, 9) + seen(0, 1, 2, 3, 4, 5, 6, 7, 8));
        Script.run(EIGHT + "change 0 2 0; sheet 0 8 40; loads 0 = 8");
    }

    /** Promise 36: "BEYOND: no such SHEET. NONE: it is missing." */
    static void loadsMissing() {
        Script.run("bind 0 1 -1; loads -1 = BEYOND; loads 4 = BEYOND; loads MIN = BEYOND; loads MAX = BEYOND; loads 0 = NONE; loads 3 = NONE;"
            + "sheet 3 8 1; loads 3 = 1; told 1 = 4; told 2 = 2");
    }

    /** Promise 37: "Numbers of a SHEET are CROSSINGS of KNOTS 0, 1, ..: the first that isn't so (one that lacks, or is too many, too); -1: all are." */
    static void judgeTheFirst() {
        String knots = "bind 0 1 -1; ".repeat(3);
        Script.run(knots + laid(0, 32, 30, 30, 30) + "judge 0 = -1; put 0 2 31; judge 0 = 2; put 0 0 29; judge 0 = 0");
        Script.run(knots + laid(0, 16, 30, 30) + "judge 0 = 2; put 0 1 0; judge 0 = 1");
        Script.run(knots + laid(0, 8, 30, 30, 30, 30) + "judge 0 = 3; put 0 2 0; judge 0 = 2");
        Script.run(knots + laid(0, 8) + "judge 0 = 0");
        Script.run(laid(0, 8) + "judge 0 = -1");
        Script.run(laid(0, 8, 0) + "judge 0 = 0");
        Script.run(EIGHT + laid(0, 8, 30, 30, 30, 30, 30, 30, 30, 30) + "judge 0 = -1; sheet 1 8 40; move 0 0 1 0 8; judge 1 = 8");
        Script.run("bind 0 1 -1; sheet 0 16 1; change 0 0 198; put 0 0 198; judge 0 = -1; change 0 0 0; judge 0 = 0; put 0 0 0; judge 0 = -1;"
            + "change 0 2 0; hand 0 0 99; judge 0 = -1; told 1 = 0");
    }

    /** Promise 37: "BEYOND: no such SHEET. NONE: it is missing." */
    static void judgeMissing() {
        Script.run("judge -1 = BEYOND; judge 4 = BEYOND; judge MIN = BEYOND; judge MAX = BEYOND; judge 0 = NONE; judge 3 = NONE;"
            + "sheet 3 8 0; judge 3 = -1; told 1 = 4; told 2 = 2");
    }
}
