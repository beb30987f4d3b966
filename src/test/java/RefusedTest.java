import java.io.IOException;
import java.nio.file.Files;
import java.nio.file.Path;
import java.util.TreeSet;
import java.util.regex.Matcher;
import java.util.regex.Pattern;

/**
 * "One that answers an ERROR changes nothing but what told() tells": each refused call is made on one of two objects that are alike;
 * whatever is asked of both then must be answered alike.
 */
public final class RefusedTest {
    private static final Path DOCUMENT = Path.of("../shared/DOC.md");

    /** Something of everything; HANDS that stay as they are, so that what waits can be so. */
    private static final String HOUSE = "people 5; hand 0 0 12; hand 1 1 33; hand 4 0 50; type v; text 0; type d<3; text 1; seed 77;"
        + "year 905; bind 0 1 -1; bind 14 12 0; bind 53 21 1; bind 60 4 -1; bind 38 32 3; bind 41 3 -1; change 3 3 51; change 0 0 36;"
        + "change 5 2 0; hand 3 2 0; sheet 0 8 5; put 0 0 32; put 0 1 9; put 0 4 77; sheet 1 16 6; put 1 0 36; put 1 5 99; sheet 2 16 2;"
        + "put 2 1 4; voice 3 3 5; type 4*; hand 2 0 44; tell 239; image; type v-; hand 2 0 10; hand 2 1 54; year 907; change 1 3 8; tell 239; tell 239";

    /** What is asked behind the call; some of it changes the house, which shows more of it. */
    private static final String[] ASKED = asked().split(";");

    private static final TreeSet<String> REFUSED = new TreeSet<>();

    public static void main(String[] args) throws IOException {
        theHouse();
        peopleAndKnots();
        textsAndYears();
        thoughts();
        voicesAndSheets();
        imagesAndCounts();
        questions();
        eachErrorOfTheDocument();
        Due.end("RefusedTest");
    }

    /** Without a refused call all is told as it was fed: only so do the questions show a change of what waits and of THE TAPE. */
    private static void theHouse() {
        Script.run(HOUSE + "; check = 0; type 3; text 0 = 1; law 0 20 1 2 = 77; restore = 905; check = 0; type 3; text 0 = 1; law 0 20 1 2 = 12");
    }

    private static String asked() {
        StringBuilder all = new StringBuilder();
        String facts = facts();
        all.append(facts);
        for (int i = 0; i < 10; i++) {
            all.append("trace ").append(i).append(';');
        }
        for (int sheet = 0; sheet < 4; sheet++) {
            all.append("judge " + sheet + ";fits " + sheet + ";loads " + sheet + ";");
            for (int knot = 0; knot < 8; knot++) {
                all.append("ofKnot ").append(knot).append(" 8;");
            }
        }
        all.append("law 0 20 1 2;law 1 2 1 1;law 1 3 1 1;check;type 3;text 0;law 0 20 1 2;loose 3;count 4;");
        all.append("restore;").append(facts).append("check;type 3;text 0;law 0 20 1 2;image");
        return all.toString();
    }

    private static String facts() {
        StringBuilder all = new StringBuilder();
        for (int what = 0; what <= 9; what++) {
            all.append("count ").append(what).append(';');
        }
        for (int person = 0; person < 6; person++) {
            all.append("ofPerson " + person + " 0;ofPerson " + person + " 1;");
        }
        for (int knot = 0; knot < 8; knot++) {
            for (int what : new int[] {0, 1, 2, 3, 4, 5, 6, 8}) {
                all.append("ofKnot ").append(knot).append(' ').append(what).append(';');
            }
        }
        return all.toString();
    }

    private static int[] told(CrossedKnots x) {
        int[] told = new int[6];
        for (int k = 1; k <= 5; k++) {
            told[k] = x.told(k);
        }
        return told;
    }

    /** A call that is refused, in the house with more done in it. */
    private static void refused(String more, String call, int error) {
        CrossedKnots x = Script.run(HOUSE + ";" + more);
        CrossedKnots twin = Script.run(HOUSE + ";" + more);
        int[] before = told(x);
        Due.due(call + " behind \"" + more + "\"", Script.answer(x, call), error);
        int[] after = told(x);
        for (int k = 1; k <= 5; k++) {
            Due.due("told(" + k + ") behind " + call, after[k] - before[k], error == -1000000000 - k ? 1 : 0);
        }
        alike(call + " behind \"" + more + "\"", x, twin);
        REFUSED.add(call.split(" ")[0] + " " + error);
    }

    private static void alike(String told, CrossedKnots x, CrossedKnots twin) {
        for (String question : ASKED) {
            Due.due(question + " behind " + told, Script.answer(x, question), Script.answer(twin, question));
        }
    }

    private static void beyond(String... calls) {
        for (String call : calls) {
            refused("", call, Due.BEYOND);
        }
    }

    /** Promises 2 to 10, by the Terms: "one that answers an ERROR changes nothing but what told() tells." */
    static void peopleAndKnots() {
        beyond("people 1", "people 7", "hand 5 0 1", "hand 0 3 1", "hand 0 0 100", "hand 1 1 -1", "hand 3 2 2", "ofPerson 5 0", "ofPerson 0 3");
        refused("", "people 2", Due.STATE);
        refused("", "people 6", Due.STATE);
        beyond("bind 70 1 -1", "bind 0 0 -1", "bind 0 5 -1", "bind 0 1 6", "bind 0 1 -2");
        refused("bind 0 1 -1; bind 0 1 -1", "bind 0 1 -1", Due.FULL);
        refused("", "bind 0 3 -1", Due.STATE);
        beyond("undo 6 1", "undo 0 0", "undo -1 1", "ofKnot 6 0", "ofKnot 0 10");
        refused("", "undo 0 1", Due.STATE);
        refused("", "undo 1 12", Due.STATE);
        refused("", "undo 5 3", Due.STATE);
        beyond("change 6 0 0", "change 0 4 0", "change 0 0 199", "change 0 1 1000", "change 5 2 2", "change 3 3 100", "change 3 3 -1");
        beyond("become 6 0", "become 0 70", "become 0 -1", "as 6 0", "as 0 7");
        refused("", "as 0 6", Due.KIND);
    }

    /** Promises 11 to 16, by the Terms: "one that answers an ERROR changes nothing but what told() tells." */
    static void textsAndYears() {
        beyond("feed 49 0", "feed 49 9", "text 2", "text -1", "law 2 0 0 0", "years 0", "years 61", "loose 0", "loose 41", "year 1000", "year -1");
        String nearlyFull = "type 10-" + "1-".repeat(20) + "; count 6 = 47";
        refused(nearlyFull, "feed 825307441 4", Due.FULL);
        refused(nearlyFull + "; type 123", "feed 49 1", Due.FULL);
        refused("year 950", "years 50", Due.STATE);
        refused("year 999", "years 1", Due.STATE);
        refused("year 960", "loose 40", Due.STATE);
        refused("year 999", "loose 1", Due.STATE);
    }

    /** Promises 17 to 29, by the Terms: "one that answers an ERROR changes nothing but what told() tells." */
    static void thoughts() {
        beyond("then 61 0 0", "then 0 5 0", "then 0 0 2", "can 6 1 0", "can 0 0 0", "can 0 1 2", "last 6", "last -1", "open 61", "open -1");
        beyond("pair 6 0", "pair 0 2", "miss 21 0", "miss 0 2", "whose 199 0", "whose 0 2", "holds 6", "holds -1", "waitFor 6", "odds 6 0");
        beyond("odds 0 2", "fits 4", "fits -1");
        refused("", "last 5", Due.NONE);
        refused("", "pair 5 0", Due.NONE);
        refused("hand 0 2 0; hand 1 2 0; hand 2 2 0; hand 4 2 0", "miss 0 0", Due.NONE);
        refused("", "whose 198 1", Due.NONE);
        refused("", "waitFor 5", Due.NONE);
        refused("", "fits 3", Due.NONE);
    }

    /** Promises 31 to 37, by the Terms: "one that answers an ERROR changes nothing but what told() tells." */
    static void voicesAndSheets() {
        beyond("voice 6 0 0", "voice 0 4 0", "voice -1 0 0", "sheet 4 8 1", "sheet 0 9 1", "sheet 0 8 41", "put 4 0 1", "put 0 5 1", "put 0 -1 1");
        refused("", "trace 9", Due.NONE);
        refused("", "trace -1", Due.NONE);
        refused("", "sheet 0 8 -1", Due.STATE);
        refused("", "sheet 3 32 -1", Due.STATE);
        refused("", "put 3 0 1", Due.NONE);
        beyond("move 4 0 0 0 1", "move 0 0 4 0 1", "move 1 0 2 0 3", "move 1 5 2 0 2", "move 1 0 2 1 2", "move 1 -1 2 0 1", "move 1 0 1 -1 1",
            "move 1 0 1 1 -1", "move 1 0 1 1 6");
        refused("", "move 0 0 3 0 1", Due.NONE);
        refused("", "move 3 0 0 0 1", Due.NONE);
        refused("", "move 0 0 1 0 1", Due.KIND);
        beyond("loads 4", "loads -1", "judge 4", "judge -1");
        refused("", "loads 3", Due.NONE);
        refused("", "judge 3", Due.NONE);
    }

    /**
     * Promises 39 to 43, by the Terms: "one that answers an ERROR changes nothing but what told() tells." restore() without an IMAGE is
     * asked of a house that has none.
     */
    static void imagesAndCounts() {
        beyond("count 10", "count -1", "told 0", "told 6");
        refused("tell 239; ".repeat(17), "tell 0", Due.FULL);
        String imageless = HOUSE.replace("image; ", "");
        CrossedKnots x = Script.run(imageless);
        CrossedKnots twin = Script.run(imageless);
        Due.due("restore() without an IMAGE", x.restore(), Due.NONE);
        alike("restore() without an IMAGE", x, twin);
        REFUSED.add("restore " + Due.NONE);
    }

    /** Promises 4 to 43, by the Terms: "(All this is only thought, YEAR beyond 999, too; nobody leaves or comes.)" What asks changes nothing. */
    static void questions() {
        String[] asked = {"ofPerson 0 0", "ofKnot 0 9", "as 4 3", "law 0 9 9 9", "law 1 9 9 9", "then 60 0 0", "can 3 4 0", "can 3 4 1",
            "last 3", "last 2", "open 0", "open 60", "pair 3 0", "pair 2 1", "miss 0 0", "miss 20 1", "keep", "whose 32 0", "whose 32 1",
            "holds 0", "alike", "waitFor 2", "waitFor 3", "odds 3 0", "odds 3 1", "fits 0", "trace 0", "judge 0", "judge 1", "count 9", "told 1"};
        for (String call : asked) {
            CrossedKnots x = Script.run(HOUSE);
            CrossedKnots twin = Script.run(HOUSE);
            int[] before = told(x);
            Script.answer(x, call);
            int[] after = told(x);
            for (int k = 1; k <= 5; k++) {
                Due.due("told(" + k + ") behind " + call, after[k], before[k]);
            }
            alike(call, x, twin);
        }
    }

    /** Every ERROR that a promise names was seen with its act. */
    private static void eachErrorOfTheDocument() throws IOException {
        String[] words = {"", "BEYOND", "NONE", "STATE", "FULL", "KIND"};
        Matcher m = Pattern.compile("## Promise \\d+: (\\w+)\n\n`[^`]*`: ([^\n]*)").matcher(Files.readString(DOCUMENT));
        int errors = 0;
        while (m.find()) {
            for (int k = 1; k <= 5; k++) {
                if (Pattern.compile("(^|[.;] )" + words[k] + "\\b").matcher(m.group(2)).find()) {
                    errors++;
                    Due.due(m.group(1) + " was refused by " + words[k], REFUSED.contains(m.group(1) + " " + (-1000000000 - k)) ? 1 : 0, 1);
                }
            }
        }
        Due.due("ERRORS that the document names", errors, REFUSED.size());
    }
}
