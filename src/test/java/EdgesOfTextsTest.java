/** Edges that the document names, promises 11 to 13: feed, text, law. */
public final class EdgesOfTextsTest {
    /** 49 bytes, a TEXT whose value is 25. */
    private static final String ONES = "1+".repeat(24) + "1";

    public static void main(String[] args) {
        Script.runAll(EdgesOfTextsTest.class);
    }

    /** A FAULT, or -1 where there is none; THE TAPE is empty then, and what there was ahead stays if there is one. */
    private static void fault(int use, String text, int want) {
        CrossedKnots x = Script.run("type 7*6; text 0; type 1; text 1");
        Due.due("text \"" + text + "\" of " + use, Due.law(x, use, text), want < 0 ? 1 : -10 - want);
        Script.on(x, "count 6 = 0; told 1 = 0; told 2 = 0; told 3 = 0; told 4 = 0; told 5 = 0");
        if (want >= 0) {
            Script.on(x, "law 0 0 0 0 = 42; law 1 0 0 0 = 1");
        }
    }

    private static void worth(String text, int v, int k, int y, int want) {
        CrossedKnots x = new CrossedKnots();
        Due.due("text " + text, Due.law(x, 0, text), 1);
        Due.due("law(0, " + v + ", " + k + ", " + y + ") by " + text, x.law(0, v, k, y), want);
    }

    private static void worth(String text, int want) {
        worth(text, 0, 0, 0, want);
    }

    /** Promise 11: "The n lowest bytes (1 .. 8) of a word" - each of these. */
    static void feedOneToEight() {
        for (int n = 1; n <= 8; n++) {
            Script.run("feed 0 " + n + " = " + n + "; count 6 = " + n);
        }
    }

    /** Promise 11: "BEYOND." 0 and 9; THE TAPE stays. */
    static void feedBeyond() {
        Script.run("feed 49 0 = BEYOND; feed 49 9 = BEYOND; feed 49 -1 = BEYOND; feed 49 MIN = BEYOND; feed 49 MAX = BEYOND;"
            + "count 6 = 0; feed 49 1 = 1; feed 0 8 = 9; feed 49 9 = BEYOND; count 6 = 9; told 1 = 6");
    }

    /** Promise 11: "the lowest first, come to THE TAPE: how many there are." 12849 is '1', then '2'. */
    static void feedTheLowestFirst() {
        Script.run("feed 12849 2 = 2; text 0 = 1; law 0 0 0 0 = 12; feed 12849 1 = 1; feed 12849 1 = 2; text 0 = 1;"
            + "law 0 0 0 0 = 11");
    }

    /** Promise 11: "The n lowest bytes" - no more of the word, and all eight of it, the highest too. */
    static void feedTheWholeWord() {
        long word = 0;
        for (int i = 7; i >= 0; i--) {
            word = word << 8 | "1+2*3+4*".charAt(i);
        }
        Script.run("feed " + word + " 8 = 8; feed 53 1 = 9; text 0 = 1; law 0 0 0 0 = 27");
        Script.run("feed " + word + " 7 = 7; text 0 = 1; law 0 0 0 0 = 11");
        Script.run("feed " + Long.MIN_VALUE + " 7 = 7; text 0 = -10; feed " + (Long.MIN_VALUE | 49) + " 1 = 1; text 0 = 1;"
            + "law 0 0 0 0 = 1");
    }

    /** Promise 11, by the Terms: "(bytes, at most 50)" - of all 256 values; a byte is none of 256 and more. */
    static void feedAnyByte() {
        Script.run("feed -1 8 = 8; text 0 = -10; feed 255 1 = 1; text 0 = -10; feed 0 1 = 1; text 0 = -10; feed 305 1 = 1;"
            + "text 0 = 1; law 0 0 0 0 = 1; feed 49 2 = 2; text 0 = -11; feed 45361 2 = 2; text 0 = -11");
        for (int b = 0; b < 256; b++) {
            boolean starts = b >= '0' && b <= '9' || b == 'v' || b == 'k' || b == 'y';
            boolean goesOn = b == '!' || b == '(';
            Script.run("feed " + b + " 1 = 1; text 0 = " + (starts ? 1 : goesOn ? -11 : -10));
        }
    }

    /** Promise 11: "FULL." Exactly 50 are taken, and none more; BEYOND is asked first. */
    static void feedFifty() {
        Script.run("feed 0 8; ".repeat(6) + "count 6 = 48; feed 0 3 = FULL; feed 0 8 = FULL; count 6 = 48; feed 0 2 = 50;"
            + "feed 0 1 = FULL; feed 0 8 = FULL; feed 0 0 = BEYOND; feed 0 9 = BEYOND; count 6 = 50; told 4 = 4; told 1 = 2");
        for (int n = 1; n <= 8; n++) {
            String to = "feed 0 1; ".repeat(50 - n);
            Script.run(to + "feed 0 " + n + " = 50");
            Script.run(to + "feed 0 1 = " + (51 - n) + "; feed 0 " + n + " = FULL; count 6 = " + (51 - n));
        }
    }

    /** Promise 11: "FULL." What was fed ahead of a refused call stands, and what comes behind it goes on there. */
    static void feedRefusedLeavesTheTape() {
        Script.run("type " + "1+".repeat(24) + "; feed 12849 3 = FULL; feed 12849 9 = BEYOND; feed 50 1 = 49; text 0 = 1;"
            + "law 0 0 0 0 = 26");
    }

    /** Promise 12: "THE TAPE, which is empty then, is the TEXT of a USE (0, 1), in place of one ahead: 1." */
    static void textInPlace() {
        Script.run("type v*2; text 0 = 1; count 6 = 0; law 0 21 0 0 = 42; type k; text 0 = 1; law 0 21 5 0 = 5; type d>2;"
            + "text 1 = 1; law 1 3 0 0 = 1; law 1 2 0 0 = 0; law 0 21 5 0 = 5; type 0; text 1 = 1; law 1 3 0 0 = 0");
        Script.run("type v; text 0 = 1; feed 118 1 = 1; count 6 = 1; text 0 = 1; text 0 = -10");
    }

    /** Promise 12: "BEYOND (THE TAPE stays)." USES are 0 and 1. */
    static void textBeyond() {
        Script.run("type 7; text 2 = BEYOND; text -1 = BEYOND; text MAX = BEYOND; text MIN = BEYOND; count 6 = 1; text 0 = 1;"
            + "law 0 0 0 0 = 7; text 2 = BEYOND; count 6 = 0; told 1 = 5");
        Script.run("type +; text 2 = BEYOND; count 6 = 1; text 1 = -10; count 6 = 0");
    }

    /** Promise 12: "-10 less the FAULT (no ERROR; the one ahead stays)." With none ahead there is none then. */
    static void textWithAFault() {
        Script.run("type v+; text 0 = -12; count 6 = 0; law 0 7 0 0 = 8; type x; text 1 = -10; law 1 7 7 7 = 0; told 1 = 0;"
            + "type v*2; text 0 = 1; type v*; text 0 = -12; law 0 7 0 0 = 14; type 1; text 1 = 1; type v; text 1 = -10;"
            + "law 1 0 0 0 = 1; law 0 7 0 0 = 14; told 1 = 0; told 3 = 0");
    }

    /** Promise 12, by the Terms: "how many there are, if it ends too early." None, one, and all 50. */
    static void textEndsTooEarly() {
        fault(0, "", 0);
        fault(1, "", 0);
        fault(0, "!", 1);
        fault(0, "(", 1);
        fault(0, "v+", 2);
        fault(0, "(v", 2);
        fault(0, "(((((v))))", 10);
        fault(0, ONES + "+", 50);
        fault(0, "(" + ONES, 50);
        fault(0, "!!!!!", 5);
    }

    /** Promise 12, by the Terms: "FAULT: the place of the first byte with which no TEXT goes on" - the first, and the last of 50. */
    static void textFaultPlaces() {
        fault(0, "+", 0);
        fault(0, ONES + "x", 49);
        fault(0, ONES + ")", 49);
        fault(0, ONES + "(", 49);
        fault(0, "x" + ONES, 0);
        fault(0, "v+x+", 2);
        fault(0, "v+)x", 2);
        fault(0, "((v+1)*", 7);
        fault(0, "((v+1)*)", 7);
    }

    /** Promise 12, by the Terms: "TEXTS are read from THE TAPE (bytes, at most 50)" - a TEXT may have all of them. */
    static void textOfFifty() {
        Script.run("type 1" + ONES + "; count 6 = 50; text 0 = 1; law 0 0 0 0 = 35");
        Script.run("type " + "1-".repeat(24) + "10; count 6 = 50; text 0 = 1; law 0 0 0 0 = 0");
        Script.run("type 10+(((((" + "1*".repeat(18) + "1))))); count 6 = 50; text 0 = 1; law 0 0 0 0 = 11");
        Script.run("type !0" + "+1".repeat(24) + "; count 6 = 50; text 0 = 1; law 0 0 0 0 = 25");
        Script.run("type !!!!!v" + "+1".repeat(22) + "; count 6 = 50; text 0 = 1; law 0 0 0 0 = 23; law 0 1 0 0 = 22");
        Script.run("type " + "0|1&1<1+1*(".repeat(4) + "!0)))); count 6 = 50; text 0 = 1; law 0 0 0 0 = 1");
        Script.run("type " + "0|1&1<1+1*(".repeat(4) + "!1)))); count 6 = 50; text 0 = 1; law 0 0 0 0 = 0");
        Script.run("type " + "0|1&0<1*1-(".repeat(4) + "!0)))); count 6 = 50; text 0 = 1; law 0 0 0 0 = 1");
        Script.run("type " + "0|1&0<1*1-(".repeat(4) + "!1)))); count 6 = 50; text 0 = 1; law 0 0 0 0 = 0");
        Script.run("type 1|(1|(1|(1|(1|(1&1<1+1*1))))); text 0 = 1; law 0 0 0 0 = 1");
        Script.run("type 0|1<2+!!!!!v; text 0 = 1; law 0 1 0 0 = 1");
    }

    /** Promise 12, by the Terms: "T: A { | A }. A: B { & B }." Any number of them, none without what stands at its sides. */
    static void textOrAnd() {
        for (String sign : new String[] {"|", "&"}) {
            fault(0, "v" + sign + "k", -1);
            fault(0, "v" + sign + "k" + sign + "y", -1);
            fault(0, sign + "v", 0);
            fault(0, "v" + sign, 2);
            fault(0, "v" + sign + sign + "k", 2);
        }
        fault(0, "v|k&y|1", -1);
        fault(0, "v|&k", 2);
        fault(0, "v&|k", 2);
    }

    /** Promise 12, by the Terms: "B: S, or S < S, S = S, S > S." One of them, no more, unless brackets or & part them. */
    static void textCompares() {
        for (String sign : new String[] {"<", "=", ">"}) {
            fault(0, "v" + sign + "k", -1);
            fault(0, sign + "v", 0);
            fault(0, "v" + sign, 2);
            fault(0, "v" + sign + sign + "k", 2);
            for (String other : new String[] {"<", "=", ">"}) {
                fault(0, "v" + sign + "k" + other + "y", 3);
                fault(0, "v" + sign + other + "y", 2);
                fault(0, "(v" + sign + "k)" + other + "y", -1);
                fault(0, "v" + sign + "(k" + other + "y)", -1);
                fault(0, "v" + sign + "k&v" + other + "k|v" + sign + "y", -1);
                fault(0, "(v" + sign + "k" + other + "y)", 4);
            }
        }
    }

    /** Promise 12, by the Terms: "S: P { + P, - P }. P: Q { * Q, / Q, % Q }." Any number of them; no sign ahead of a value. */
    static void textSums() {
        for (String sign : new String[] {"+", "-", "*", "/", "%"}) {
            fault(0, "v" + sign + "k", -1);
            fault(0, "v" + sign + "k" + sign + "y", -1);
            fault(0, sign + "v", 0);
            fault(0, "v" + sign, 2);
            fault(0, "v" + sign + sign + "k", 2);
            fault(0, "v" + sign + "-1", 2);
            fault(0, "(" + sign + "v)", 1);
            fault(0, "!" + sign + "v", 1);
        }
    }

    /** Promise 12, by the Terms: "Q: a NUMBER of 1 to 4 digits, a NAME, ! Q, ( T )." Four digits, not five. */
    static void textNumbers() {
        fault(0, "0", -1);
        fault(0, "9999", -1);
        fault(0, "0000", -1);
        fault(0, "10000", 4);
        fault(0, "00000", 4);
        fault(0, "v+12345", 6);
        fault(0, "(12345)", 5);
        fault(0, "!1234", -1);
        fault(0, "!12345", 5);
        fault(0, "1234+1234", -1);
        fault(0, "/", 0);
        fault(0, ":", 0);
        worth("v-9999", 10098, 0, 0, 99);
        worth("v-9999", 9999, 0, 0, 0);
        worth("0099", 99);
        worth("0000", 0);
        worth("9", 9);
    }

    /**
     * Promise 12, by the Terms: "USES: 0 CHANGES, NAMES v the hand, k 0 for LEFT, 1 for RIGHT, y the rest of YEAR by 10;" "1 STANDS IN,
     * NAMES d MISSES, m m, l LOAD;" Each USE has its own NAMES, of one byte.
     */
    static void textNames() {
        for (int use = 0; use <= 1; use++) {
            String names = use == 0 ? "vky" : "dml";
            for (char c = 'a'; c <= 'z'; c++) {
                fault(use, "" + c, names.indexOf(c) >= 0 ? -1 : 0);
                fault(use, "" + Character.toUpperCase(c), 0);
                fault(use, "1+" + c, names.indexOf(c) >= 0 ? -1 : 2);
            }
            fault(use, "" + names.charAt(0) + names.charAt(0), 1);
            fault(use, names.charAt(0) + "1", 1);
            fault(use, "1" + names.charAt(0), 1);
        }
    }

    /** Promise 12, by the Terms: "Q: a NUMBER of 1 to 4 digits, a NAME, ! Q, ( T )." Brackets and ! that stand alone. */
    static void textBrackets() {
        fault(0, "()", 1);
        fault(0, ")", 0);
        fault(0, "(v)", -1);
        fault(0, "(v))", 3);
        fault(0, "(v)(k)", 3);
        fault(0, "v(k)", 1);
        fault(0, "(v)k", 3);
        fault(0, "(v)1", 3);
        fault(0, "1(v)", 1);
        fault(0, "v!", 1);
        fault(0, "v!k", 1);
        fault(0, "!v", -1);
        fault(0, "!(v|k)", -1);
        fault(0, "(!)", 2);
        fault(0, "v+!k", -1);
        fault(0, "(v|k&y<1+2*3)", -1);
    }

    /** Promise 12, by the Terms: "No blanks." At either end, or inside. */
    static void textBlanks() {
        fault(0, " v", 0);
        fault(0, "v ", 1);
        fault(0, "v +1", 1);
        fault(0, "v+ 1", 2);
        fault(0, "(v )", 2);
        fault(0, "v\n", 1);
        fault(0, "v\t", 1);
        fault(0, "v\u0000", 1);
        fault(0, "1 2", 1);
    }

    /** Promise 12, by the Terms: "At most 5 of ! and ( are open at once." The fifth is taken, the sixth is the FAULT. */
    static void textFiveOpen() {
        fault(0, "!!!!!v", -1);
        fault(0, "!!!!!!v", 5);
        fault(0, "(((((v)))))", -1);
        fault(0, "((((((v))))))", 5);
        fault(0, "!(!(!v))", -1);
        fault(0, "!(!(!!v))", 5);
        fault(0, "(!(!(v)))", -1);
        fault(0, "(!(!((v))))", 5);
        fault(0, "!!!!!(v)", 5);
        fault(0, "(((((!v)))))", 5);
        fault(0, "(((((v+(1", 7);
        fault(0, "v*(((((v+!1", 9);
        fault(0, "!!!!!+1", 5);
        fault(0, "((((()))))", 5);
        fault(0, "(((((-1)))))", 5);
        fault(0, "!!!!!", 5);
        fault(1, "!!!!!d", -1);
        fault(1, "!!!!!!d", 5);
    }

    /** Promise 12, by the Terms: "At most 5 of ! and ( are open at once." What is closed counts no more. */
    static void textClosedOnes() {
        fault(0, "(v)+(v)+(v)+(v)+(v)+(v)+(v)", -1);
        fault(0, "!v+!v+!v+!v+!v+!v+!v", -1);
        fault(0, "(((((v)))))+(((((v)))))", -1);
        fault(0, "!!!!!v*!!!!!v", -1);
        fault(0, "((((v)+(v)+!v)+(!v)))", -1);
        fault(0, "((((!v+!v+(v)+!v))))", -1);
        fault(0, "((((!v+!!v))))", 8);
        fault(0, "(((((v)))))+((((((v))))))", 17);
        fault(0, "!!!!!v+!!!!!!v", 12);
        fault(0, "!(((v)+(v))*(v))+!(((!v)))", -1);
    }

    /** Promise 13: "What a USE gives with its NAMES in order as a, b, c." */
    static void lawNamesInOrder() {
        Script.run("type v*9+k*3+y; text 0; law 0 7 4 2 = 77; type (d=7)&(m=4)&(l=2); text 1; law 1 7 4 2 = 1;"
            + "law 1 4 7 2 = 0; law 1 7 2 4 = 0; law 0 0 0 0 = 0");
        Script.run("type v; text 0; law 0 7 4 2 = 7; type k; text 0; law 0 7 4 2 = 4; type y; text 0; law 0 7 4 2 = 2");
        Script.run("type d; text 1; law 1 1 0 0 = 1; law 1 0 1 1 = 0; type m; text 1; law 1 0 1 0 = 1; law 1 1 0 1 = 0;"
            + "type l; text 1; law 1 0 0 1 = 1; law 1 1 1 0 = 0");
    }

    /** Promise 13: "BEYOND." USES are 0 and 1, with a TEXT and without. */
    static void lawBeyond() {
        Script.run("law 2 0 0 0 = BEYOND; law -1 0 0 0 = BEYOND; law MAX 0 0 0 = BEYOND; law MIN 0 0 0 = BEYOND; law 0 0 0 0 = 1;"
            + "law 1 0 0 0 = 0; type 1; text 0; law 2 0 0 0 = BEYOND; told 1 = 5");
    }

    /** Promise 13, by the Terms: "held within 0 to 99; without a TEXT v+1." With a TEXT. */
    static void lawHeldTo99() {
        Script.run("type v; text 0; law 0 -1 0 0 = 0; law 0 0 0 0 = 0; law 0 1 0 0 = 1; law 0 98 0 0 = 98; law 0 99 0 0 = 99;"
            + "law 0 100 0 0 = 99; law 0 MAX 0 0 = 99; law 0 MIN 0 0 = 0");
    }

    /** Promise 13, by the Terms: "held within 0 to 99; without a TEXT v+1." Without one; ints go round there, too. */
    static void lawWithoutAText() {
        Script.run("law 0 0 9 9 = 1; law 0 98 0 0 = 99; law 0 99 0 0 = 99; law 0 100 0 0 = 99; law 0 -1 0 0 = 0;"
            + "law 0 -2 0 0 = 0; law 0 MIN 0 0 = 0; law 0 MAX 0 0 = 0");
    }

    /** Promise 13, by the Terms: "held within 0 to 1; without a TEXT 0." */
    static void lawHeldToOne() {
        Script.run("law 1 0 0 0 = 0; law 1 1 1 1 = 0; law 1 MAX MAX MAX = 0; type d; text 1; law 1 -1 0 0 = 0; law 1 0 0 0 = 0;"
            + "law 1 1 0 0 = 1; law 1 2 0 0 = 1; law 1 MAX 0 0 = 1; law 1 MIN 0 0 = 0");
    }

    /** Promise 13, by the Terms: "Ints that wrap" */
    static void lawWraps() {
        worth("v+k", Integer.MAX_VALUE, 1, 0, 0);
        worth("v+k", Integer.MIN_VALUE, -1, 0, 99);
        worth("v-k", Integer.MIN_VALUE, 1, 0, 99);
        worth("v-k", Integer.MAX_VALUE, -1, 0, 0);
        worth("v*k", 65536, 65536, 0, 0);
        worth("v*k", 65536, 32768, 0, 0);
        worth("v*k", 65537, 65537, 0, 99);
        worth("v*k-v-k+2", 65537, 65537, 0, 1);
        worth("9999*9999*9999=v", (int) (9999L * 9999L * 9999L), 0, 0, 1);
        worth("0-v<0", Integer.MIN_VALUE, 0, 0, 1);
    }

    /** Promise 13, by the Terms: "/ cut, % the rest that it leaves, both by 0 are 0" */
    static void lawDivides() {
        worth("v/k", 7, 0, 0, 0);
        worth("v%k", 7, 0, 0, 0);
        worth("5+v/k", 7, 0, 0, 5);
        worth("5+v%k", 7, 0, 0, 5);
        worth("0/0+3", 3);
        worth("v/k", 7, 8, 0, 0);
        worth("v/k", 8, 8, 0, 1);
        worth("v%k", 8, 8, 0, 0);
        worth("v%k", 7, 8, 0, 7);
        worth("9+v/k", -7, 2, 0, 6);
        worth("9+v/k", 7, -2, 0, 6);
        worth("9+v/k", -7, -2, 0, 12);
        worth("9+v%k", -7, 4, 0, 6);
        worth("9+v%k", 7, -4, 0, 12);
        worth("9+v%k", -7, -4, 0, 6);
        worth("v/k=v", Integer.MIN_VALUE, -1, 0, 1);
        worth("v%k+9", Integer.MIN_VALUE, -1, 0, 9);
        worth("7+v/k", Integer.MIN_VALUE, 0, 0, 7);
    }

    /** Promise 13, by the Terms: "Quotients are cut (toward 0)." On both sides of 0. */
    static void lawCutsTowardZero() {
        worth("v/9+50", 8, 0, 0, 50);
        worth("v/9+50", -8, 0, 0, 50);
        worth("v/9+50", 9, 0, 0, 51);
        worth("v/9+50", -9, 0, 0, 49);
        worth("v/9+50", -17, 0, 0, 49);
    }

    /** Promise 13, by the Terms: "| & < = > ! are 1 or 0, what is not 0 being true" */
    static void lawTruth() {
        worth("4|3", 1);
        worth("4&3", 1);
        worth("0|0", 0);
        worth("0|4", 1);
        worth("4|0", 1);
        worth("4&0", 0);
        worth("0&4", 0);
        worth("v&v", -1, 0, 0, 1);
        worth("v|0", Integer.MIN_VALUE, 0, 0, 1);
        worth("!v", -1, 0, 0, 0);
        worth("!v", Integer.MIN_VALUE, 0, 0, 0);
        worth("!0", 1);
        worth("!1", 0);
        worth("!!7", 1);
        worth("v<k", 3, 3, 0, 0);
        worth("v<k", 2, 3, 0, 1);
        worth("v<k", 3, 2, 0, 0);
        worth("v>k", 3, 3, 0, 0);
        worth("v>k", 3, 2, 0, 1);
        worth("v>k", 2, 3, 0, 0);
        worth("v=k", 3, 3, 0, 1);
        worth("v=k", 3, 2, 0, 0);
        worth("v<k", Integer.MIN_VALUE, Integer.MAX_VALUE, 0, 1);
        worth("v>k", Integer.MIN_VALUE, Integer.MAX_VALUE, 0, 0);
        worth("(3<4)+(4>3)+(4=4)+(4|0)+(4&4)+!0", 6);
        worth("9+(0|0)", 9);
        worth("9+(0&0)", 9);
        worth("9+(3<3)", 9);
        worth("9+(3=4)", 9);
        worth("9+(3>3)", 9);
        worth("9+!3", 9);
    }

    /** Promise 13, by the Terms: "all is worked out." What stands behind | and &, too: it neither fails nor matters. */
    static void lawWorksAllOut() {
        worth("1|1/0", 1);
        worth("0&1%0", 0);
        worth("1/0|1", 1);
        worth("(1|0/0)+(0&0%0)+5", 6);
    }

    /** Promise 13, by the Terms: "S: P { + P, - P }. P: Q { * Q, / Q, % Q }." From the left; what binds closer goes first. */
    static void lawFromTheLeft() {
        worth("9-3-2", 4);
        worth("16/4/2", 2);
        worth("16/4*2", 8);
        worth("17%10%4", 3);
        worth("2*3%4", 2);
        worth("9-2*3", 3);
        worth("9-4+2", 7);
        worth("2+3<4+2", 1);
        worth("1<2&3<2", 0);
        worth("1|0&0", 1);
        worth("0&0|1", 1);
        worth("!0+5", 6);
        worth("!5*3+2", 2);
        worth("!(5*0)+2", 3);
    }
}
