import java.io.IOException;
import java.nio.file.DirectoryStream;
import java.nio.file.Files;
import java.nio.file.Path;
import java.util.ArrayList;
import java.util.List;
import java.util.regex.Matcher;
import java.util.regex.Pattern;

/**
 * Tells which sentences of the document no test of boundary cases quotes, and which quotes the document doesn't have
 * (any more). It only tells, as the document may be changed ahead of the tests.
 */
public final class SentencesTest {
    private static final Path DOCUMENT = Path.of("../shared/DOC.md");
    private static final Path TESTS = Path.of("src/test/java");
    private static final Pattern SIGNATURE = Pattern.compile("^`(int )?\\w+\\([^`]*\\)`: ");
    private static final Pattern TEXT = Pattern.compile("\"((?:[^\"\\\\]|\\\\.)*)\"");

    /** What no boundary case follows from: headings, what the interface says, and what others say with numbers. */
    private static final String[] NO_BOUNDARY = {"All numbers are whole numbers.", "Clients, chapters",
        "Chapters that are bought back, or sold", "Ahead of the calls ", "Tells about the fault of the text.",
        "The constants: ", "`NOT_POSSIBLE = ", "`LIMIT_REACHED = ", "`NOT_FOUND = "};

    public static void main(String[] args) throws IOException {
        List<String> quotes = quotes();
        List<String> sentences = sentences();
        for (String sentence : sentences) {
            if (!beginsWithOneOf(sentence, NO_BOUNDARY) && !quotes.contains(sentence)) {
                System.out.println("no test of boundary cases quotes: " + sentence);
            }
        }
        for (String quote : quotes) {
            if (quote.endsWith(".") && quote.contains(" ") && !sentences.contains(quote)) {
                System.out.println("the document doesn't say: " + quote);
            }
        }
        Checks.holds("the document has sentences", !sentences.isEmpty());
        Checks.holds("the tests have quotes", !quotes.isEmpty());
        Checks.finish("SentencesTest");
    }

    private static boolean beginsWithOneOf(String sentence, String[] beginnings) {
        for (String beginning : beginnings) {
            if (sentence.startsWith(beginning)) {
                return true;
            }
        }
        return false;
    }

    private static List<String> sentences() throws IOException {
        List<String> found = new ArrayList<>();
        boolean inside = false;
        for (String line : Files.readAllLines(DOCUMENT)) {
            if (line.startsWith("## ")) {
                inside = line.equals("## Terms") || line.startsWith("## Promise ");
            } else if (inside && !line.isBlank() && !line.startsWith("#")) {
                String said = SIGNATURE.matcher(line.strip().replaceFirst("^- ", "")).replaceFirst("");
                found.addAll(List.of(said.split("(?<=\\.)\\s+(?=[A-Z])")));
            }
        }
        return found;
    }

    /** All texts of the tests of boundary cases, those that stand on several lines joined. */
    private static List<String> quotes() throws IOException {
        List<String> found = new ArrayList<>();
        try (DirectoryStream<Path> files = Files.newDirectoryStream(TESTS, "*EdgesTest.java")) {
            for (Path file : files) {
                String joined = Files.readString(file).replaceAll("\"\\s*\\+\\s*\"", "");
                Matcher text = TEXT.matcher(joined);
                while (text.find()) {
                    found.add(text.group(1).replace("\\\"", "\""));
                }
            }
        }
        return found;
    }
}
