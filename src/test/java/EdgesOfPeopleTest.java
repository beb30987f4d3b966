/** Edges that the document names, promises 1 to 4: a new object, people, hand, ofPerson. */
public final class EdgesOfPeopleTest {
    public static void main(String[] args) {
        Script.runAll(EdgesOfPeopleTest.class);
    }

    /** Promise 1: "All as at first; four of PEOPLE, no KNOTS." Each count of an object on which nothing was done. */
    static void aNewObject() {
        Script.run("count 0 = 4; count 1 = 0; count 2 = 0; count 3 = 120; count 4 = 15; count 5 = 0; count 6 = 0;"
            + "count 7 = 0; count 8 = 0; count 9 = 1; ofKnot 0 0 = BEYOND; ofPerson 3 0 = 10; ofPerson 4 0 = BEYOND");
    }

    /**
     * Promise 1, by the Terms: "PEOPLE 0 .. n - 1 (n 2 to 6; 4 at first), each with a LEFT and a RIGHT hand (0 to 99; 10 and 20 at
     * first), THERE or not (at first)." Each of the four.
     */
    static void theFourAtFirst() {
        for (int person = 0; person < 4; person++) {
            Script.run("ofPerson " + person + " 0 = 10; ofPerson " + person + " 1 = 20; ofPerson " + person + " 2 = 1");
        }
    }

    /** Promise 1, by the Terms: "or missing (as at first)." Each of the four SHEETS. */
    static void noSheetAtFirst() {
        for (int sheet = 0; sheet <= 3; sheet++) {
            Script.run("fits " + sheet + " = NONE; loads " + sheet + " = NONE; judge " + sheet + " = NONE; put " + sheet
                + " 0 0 = NONE; move " + sheet + " 0 " + sheet + " 0 0 = NONE; told 2 = 5");
        }
    }

    /** Promise 1: "All as at first" - no TEXTS, no TRACE, no IMAGE, nothing told, nothing that waits. */
    static void nothingElseAtFirst() {
        Script.run("told 1 = 0; told 2 = 0; told 3 = 0; told 4 = 0; told 5 = 0; law 0 7 0 0 = 8; law 1 7 7 7 = 0;"
            + "trace 0 = NONE; restore = NONE; check = 0; text 0 = -10; image = 1; restore = 0");
    }

    /** Promise 1: "All as at first" - whatever was done on another object. */
    static void objectsApart() {
        CrossedKnots one = new CrossedKnots();
        CrossedKnots other = new CrossedKnots();
        Script.on(one, "people 6; hand 0 0 99; bind 69 1 -1; year 9; seed 9; type v; text 0; type 1; text 1; type 9; tell 9;"
            + "voice 0 3 9; sheet 0 8 9; image; people 9");
        for (CrossedKnots x : new CrossedKnots[] {other, new CrossedKnots()}) {
            Script.on(x, "count 0 = 4; count 1 = 0; count 2 = 0; count 3 = 120; count 6 = 0; count 7 = 0; count 8 = 0;"
                + "count 9 = 1; law 0 9 0 0 = 10; law 1 9 0 0 = 0; told 1 = 0; restore = NONE; judge 0 = NONE");
        }
    }

    /** Promise 2: "BEYOND." By the Terms n is 2 to 6: the least and the most, and those next to them. */
    static void peopleTwoToSix() {
        Script.run("people 1 = BEYOND; count 0 = 4; people 2 = 4; count 0 = 2; people 3 = 2; people 4 = 3; people 5 = 4;"
            + "people 6 = 5; count 0 = 6; people 7 = BEYOND; count 0 = 6; told 1 = 2");
        Script.run("people 0 = BEYOND; people -1 = BEYOND; people -2 = BEYOND; people MIN = BEYOND; people MAX = BEYOND;"
            + "count 0 = 4; count 3 = 120; count 4 = 15");
    }

    /** Promise 2: "There are n of PEOPLE, all as at first: how many there were." Those who come anew, too. */
    static void allAsAtFirst() {
        Script.run("people 6; hand 5 0 99; hand 5 1 0; hand 5 2 0; hand 0 0 77; hand 1 1 78; hand 1 2 0; people 2 = 6;"
            + "ofPerson 0 0 = 10; ofPerson 1 1 = 20; ofPerson 1 2 = 1; count 3 = 60; count 4 = 3;"
            + "people 6 = 2; ofPerson 5 0 = 10; ofPerson 5 1 = 20; ofPerson 5 2 = 1; count 3 = 180; count 4 = 63");
    }

    /** Promise 2: "There are n of PEOPLE, all as at first" - also if n is what it was. */
    static void asManyAsThereWere() {
        Script.run("hand 0 0 77; hand 3 2 0; people 4 = 4; ofPerson 0 0 = 10; count 4 = 15");
    }

    /** Promise 2: "There are n of PEOPLE" - nobody beyond them. */
    static void nobodyBeyond() {
        Script.run("people 2; ofPerson 1 0 = 10; ofPerson 2 0 = BEYOND; bind 0 2 -1 = BEYOND; bind 0 1 -1 = 0");
        Script.run("people 6; ofPerson 5 0 = 10; ofPerson 6 0 = BEYOND; bind 0 6 -1 = BEYOND; bind 0 5 -1 = 0");
    }

    /** Promise 2: "STATE: there are KNOTS." One is enough, TIED or not; BEYOND is asked first. */
    static void peopleWithKnots() {
        Script.run("hand 0 0 11; bind 0 1 -1; people 4 = STATE; people 2 = STATE; people 6 = STATE; people 1 = BEYOND;"
            + "people 7 = BEYOND; ofPerson 0 0 = 11; count 0 = 4; undo 0 1 = 0; people 4 = STATE; count 1 = 1;"
            + "told 1 = 2; told 3 = 4");
    }

    /** Promise 2: "STATE: there are KNOTS." None, once an IMAGE without KNOTS is restored. */
    static void peopleWithoutKnotsAgain() {
        Script.run("image; bind 0 1 -1; people 2 = STATE; restore = 0; people 2 = 4; count 0 = 2");
    }

    /** Promise 3: "LEFT (what 0), RIGHT (1), THERE (2: 0, 1) of one becomes v: what it was." LEFT is 0 to 99. */
    static void leftZeroTo99() {
        Script.run("hand 0 0 -1 = BEYOND; ofPerson 0 0 = 10; hand 0 0 0 = 10; ofPerson 0 0 = 0; hand 0 0 99 = 0;"
            + "hand 0 0 100 = BEYOND; ofPerson 0 0 = 99; hand 0 0 MAX = BEYOND; hand 0 0 MIN = BEYOND; ofPerson 0 0 = 99;"
            + "ofPerson 0 1 = 20; ofPerson 1 0 = 10; told 1 = 4");
    }

    /** Promise 3: "LEFT (what 0), RIGHT (1), THERE (2: 0, 1) of one becomes v: what it was." RIGHT is 0 to 99. */
    static void rightZeroTo99() {
        Script.run("hand 3 1 -1 = BEYOND; ofPerson 3 1 = 20; hand 3 1 0 = 20; ofPerson 3 1 = 0; hand 3 1 99 = 0;"
            + "hand 3 1 100 = BEYOND; ofPerson 3 1 = 99; hand 3 1 MAX = BEYOND; hand 3 1 MIN = BEYOND; ofPerson 3 1 = 99;"
            + "ofPerson 3 0 = 10; ofPerson 2 1 = 20; told 1 = 4");
    }

    /** Promise 3: "THERE (2: 0, 1)" - no other number; what it is already may be told again. */
    static void thereZeroOrOne() {
        Script.run("hand 1 2 -1 = BEYOND; hand 1 2 2 = BEYOND; ofPerson 1 2 = 1; hand 1 2 1 = 1; hand 1 2 0 = 1;"
            + "ofPerson 1 2 = 0; hand 1 2 0 = 0; hand 1 2 2 = BEYOND; hand 1 2 99 = BEYOND; ofPerson 1 2 = 0; count 4 = 13;"
            + "hand 1 2 1 = 0; count 4 = 15");
    }

    /** Promise 3: "BEYOND." No such person, no such what. */
    static void handOfNobody() {
        Script.run("hand -1 0 5 = BEYOND; hand 4 0 5 = BEYOND; hand 3 0 5 = 10; hand 0 -1 1 = BEYOND; hand 0 3 1 = BEYOND;"
            + "hand MIN 0 5 = BEYOND; hand MAX 0 5 = BEYOND; hand 0 MIN 1 = BEYOND; hand 0 MAX 1 = BEYOND; told 1 = 8;"
            + "count 3 = 115; count 4 = 15");
        Script.run("people 2; hand 1 0 5 = 10; hand 2 0 5 = BEYOND; people 6; hand 5 0 5 = 10; hand 6 0 5 = BEYOND");
    }

    /** Promise 4: "LEFT (what 0), RIGHT (1), THERE (2) of one." The edges of each. */
    static void ofPersonAtTheEnds() {
        Script.run("hand 2 0 0; hand 2 1 99; hand 2 2 0; ofPerson 2 0 = 0; ofPerson 2 1 = 99; ofPerson 2 2 = 0;"
            + "hand 2 0 99; hand 2 1 0; hand 2 2 1; ofPerson 2 0 = 99; ofPerson 2 1 = 0; ofPerson 2 2 = 1");
    }

    /** Promise 4: "BEYOND." No such person, no such what. */
    static void ofPersonOfNobody() {
        Script.run("ofPerson 0 -1 = BEYOND; ofPerson 0 3 = BEYOND; ofPerson -1 0 = BEYOND; ofPerson 4 0 = BEYOND;"
            + "ofPerson 4 2 = BEYOND; ofPerson MIN 0 = BEYOND; ofPerson MAX 0 = BEYOND; ofPerson 0 MIN = BEYOND;"
            + "ofPerson 0 MAX = BEYOND; told 1 = 9");
        Script.run("people 2; ofPerson 1 2 = 1; ofPerson 2 2 = BEYOND; people 6; ofPerson 5 2 = 1; ofPerson 6 2 = BEYOND");
    }
}
