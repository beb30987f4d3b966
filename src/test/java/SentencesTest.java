import java.io.IOException;
import java.nio.file.DirectoryStream;
import java.nio.file.Files;
import java.nio.file.Path;
import java.util.ArrayList;
import java.util.Arrays;
import java.util.HashMap;
import java.util.List;
import java.util.Map;
import java.util.regex.Matcher;
import java.util.regex.Pattern;

/**
 * The tests of edges against the document: each says in a remark to which promise it belongs and which words of the document it
 * holds to; each of these words stands there; and no sentence of a promise or of the Terms is left without a test.
 */
public final class SentencesTest {
    private static final Path TESTS = Path.of("src/test/java");
    private static final Path DOCUMENT = Path.of("../shared/DOC.md");
    private static final String TERMS = "Terms";
    private static final int PROMISES = 43;

    private static final Map<String, String> SECTIONS = new HashMap<>();
    private static final Map<String, List<String>> QUOTES = new HashMap<>();

    public static void main(String[] args) throws IOException {
        readDocument();
        int tests = 0;
        try (DirectoryStream<Path> files = Files.newDirectoryStream(TESTS, "{EdgesOf*,Refused}Test.java")) {
            for (Path file : files) {
                tests += readRemarks(file.getFileName().toString(), Files.readString(file));
            }
        }
        Due.due("tests of edges were found", tests > PROMISES ? 1 : 0, 1);
        for (int promise = 1; promise <= PROMISES; promise++) {
            covered("" + promise);
        }
        covered(TERMS);
        Due.end("SentencesTest");
    }

    private static String plain(String text) {
        return text.replaceAll("```(text)?", " ").replaceAll("\\s+", " ").trim();
    }

    private static void readDocument() throws IOException {
        for (String part : Files.readString(DOCUMENT).split("\n## ")) {
            String body = part.substring(part.indexOf('\n') + 1);
            Matcher head = Pattern.compile("Promise (\\d+): .*").matcher(part.substring(0, part.indexOf('\n')));
            if (head.matches()) {
                SECTIONS.put(head.group(1), plain(body.substring(body.indexOf("`: ") + 3)));
            } else if (part.startsWith(TERMS + "\n")) {
                SECTIONS.put(TERMS, plain(body.substring(0, body.indexOf("\nAhead of the calls")).replaceAll("\n\\d\\. ", "\n")));
            }
        }
        Due.due("promises of the document, and its Terms", SECTIONS.size(), PROMISES + 1);
    }

    /** Each test has a remark; how many there are. */
    private static int readRemarks(String file, String source) {
        Matcher test = Pattern.compile("(/\\*\\*((?!\\*/).)*\\*/)?\\s*\n    static void (\\w+)\\(\\)", Pattern.DOTALL).matcher(source);
        int tests = 0;
        while (test.find()) {
            tests++;
            String remark = test.group(1) == null ? "" : plain(test.group(1).replaceAll("\n\\s*\\*", " "));
            Matcher told = Pattern.compile("^/\\*\\* Promises? (\\d+)(?: to \\d+)?(, by the Terms)?: \".*").matcher(remark);
            boolean says = told.matches();
            Due.due(file + ", " + test.group(3) + " says to which promise it belongs", says ? 1 : 0, 1);
            if (says) {
                quote(file + ", " + test.group(3), told.group(2) == null ? told.group(1) : TERMS, remark);
                QUOTES.computeIfAbsent("tests of " + told.group(1), k -> new ArrayList<>()).add(test.group(3));
            }
        }
        return tests;
    }

    private static void quote(String test, String section, String remark) {
        Matcher quoted = Pattern.compile("\"([^\"]*)\"").matcher(remark);
        while (quoted.find()) {
            String words = plain(quoted.group(1));
            Due.due(test + ": \"" + words + "\" stands there", SECTIONS.getOrDefault(section, "").contains(words) ? 1 : 0, 1);
            QUOTES.computeIfAbsent(section, k -> new ArrayList<>()).add(words);
        }
    }

    /** Every word of the section stands in what some test holds to. */
    private static void covered(String section) {
        if (!section.equals(TERMS)) {
            Due.due("promise " + section + " has tests of its edges", QUOTES.containsKey("tests of " + section) ? 1 : 0, 1);
        }
        String text = SECTIONS.getOrDefault(section, "");
        boolean[] held = new boolean[text.length()];
        for (String words : QUOTES.getOrDefault(section, new ArrayList<>())) {
            for (int at = text.indexOf(words); at >= 0 && !words.isEmpty(); at = text.indexOf(words, at + 1)) {
                Arrays.fill(held, at, at + words.length(), true);
            }
        }
        StringBuilder left = new StringBuilder();
        for (int i = 0; i < held.length; i++) {
            left.append(held[i] ? '_' : text.charAt(i));
        }
        for (String words : left.toString().split("_+")) {
            boolean bare = Pattern.compile("\\w").matcher(words).find();
            Due.due("\"" + words.trim() + "\" of " + section + " has a test", bare ? 0 : 1, 1);
        }
    }
}
