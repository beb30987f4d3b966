import java.io.IOException;
import java.nio.file.DirectoryStream;
import java.nio.file.Files;
import java.nio.file.Path;
import java.util.regex.Matcher;
import java.util.regex.Pattern;

/** README.md against the class: its examples answer as they say, and it names every call and every test. */
public final class ReadmeTest {
    private static final Pattern CALL = Pattern.compile("house\\.(\\w+)\\(([^)]*)\\);\\s*// (-?\\d+)(:.*)?");

    public static void main(String[] args) throws IOException {
        String readme = Files.readString(Path.of("README.md"));
        examples(readme);
        for (String name : CallTable.NAMES) {
            named(readme, name);
        }
        try (DirectoryStream<Path> files = Files.newDirectoryStream(Path.of("src/test/java"), "*Test.java")) {
            for (Path file : files) {
                named(readme, file.getFileName().toString().replace(".java", ""));
            }
        }
        Due.end("ReadmeTest");
    }

    private static void named(String readme, String name) {
        Due.due("README.md names " + name, readme.contains("`" + name + "`") ? 1 : 0, 1);
    }

    private static void examples(String readme) {
        CrossedKnots house = null;
        int calls = 0;
        for (String line : readme.split("\n")) {
            if (line.startsWith("CrossedKnots house = new CrossedKnots();")) {
                house = new CrossedKnots();
            } else if (line.startsWith("house.")) {
                example(house, line);
                calls++;
            }
        }
        Due.due("examples were found", calls > 0 ? 1 : 0, 1);
    }

    private static void example(CrossedKnots house, String line) {
        Matcher call = CALL.matcher(line);
        if (house == null || !call.matches()) {
            Due.due("a call with its answer on a new object: " + line, 0, 1);
            return;
        }
        StringBuilder words = new StringBuilder(call.group(1));
        for (String argument : call.group(2).split(", ")) {
            words.append(' ').append(Long.decode(argument.replace("L", "")));
        }
        Due.due(line, Script.answer(house, words.toString()), Long.parseLong(call.group(3)));
    }
}
