import java.io.File;
import java.io.IOException;
import java.nio.charset.StandardCharsets;
import java.nio.file.Files;
import java.util.Arrays;
import java.util.HashSet;
import java.util.Set;
import java.util.regex.Matcher;
import java.util.regex.Pattern;

/** Of each promise every sentence, and of the Terms every bound that stands in brackets, is quoted by a test. */
public final class SentencesTest {
    private static final Pattern QUOTE =
        Pattern.compile("Check\\.sentence\\((\\d+),\\s*((?:\"[^\"]*+\"\\s*+\\+?\\s*+)++)\\)");
    private static final Pattern WORDS = Pattern.compile("\"([^\"]*)\"");
    private static final Pattern BRACKETS = Pattern.compile("\\((?:[^()]++|\\([^()]*+\\))*+\\)");
    /** What stands in brackets in the Terms and is no bound: parts of bodies, the numbers of the refusals. */
    private static final Set<String> NO_BOUNDS = new HashSet<>(Arrays.asList("(E)", "(x)", "(x * 3)", "(1)", "(x + 1)",
        "(x - i)", "(2)", "(..)", "()", "(-1)", "(-2)", "(-3)", "(-4)", "(-11)", "(-12)", "(-13)", "(-14)"));

    private static final Set<String> QUOTES = new HashSet<>();

    public static void main(String[] args) throws IOException {
        readQuotes();
        for (int promise = 1; promise <= Document.PROMISES; promise++) {
            String words = Document.promise(promise);
            Check.due("promise " + promise + " is told", words.isEmpty() ? 0 : 1, 1);
            for (String sentence : words.split("(?<!\\.)[.;](?!\\.)")) {
                String name = "tests for " + promise + ", '" + sentence.trim() + "'";
                Check.due(name, isQuoted(promise, sentence.trim()) ? 1 : 0, 1);
            }
        }
        Matcher brackets = BRACKETS.matcher(Document.terms());
        while (brackets.find()) {
            String words = brackets.group();
            boolean tested = NO_BOUNDS.contains(words) || isQuoted(words);
            Check.due("tests for '" + words + "' in the Terms", tested ? 1 : 0, 1);
        }
        Check.end();
    }

    /** Each quote with its promise's number ahead of it: "12 BAD". */
    private static void readQuotes() throws IOException {
        File[] tests = new File("tests").listFiles((folder, name) -> name.startsWith("EdgesOf"));
        Check.due("tests are found", tests == null || tests.length == 0 ? 0 : 1, 1);
        for (File test : tests == null ? new File[0] : tests) {
            String source = new String(Files.readAllBytes(test.toPath()), StandardCharsets.UTF_8);
            Matcher quote = QUOTE.matcher(source);
            while (quote.find()) {
                StringBuilder words = new StringBuilder(quote.group(1)).append(' ');
                Matcher part = WORDS.matcher(quote.group(2));
                while (part.find()) {
                    words.append(part.group(1));
                }
                QUOTES.add(words.toString());
            }
        }
    }

    private static boolean isQuoted(int promise, String sentence) {
        String ahead = promise + " ";
        for (String quote : QUOTES) {
            if (quote.startsWith(ahead)) {
                String words = quote.substring(ahead.length());
                if (sentence.contains(words) || words.contains(sentence)) {
                    return true;
                }
            }
        }
        return false;
    }

    private static boolean isQuoted(String brackets) {
        for (String quote : QUOTES) {
            String words = quote.substring(quote.indexOf(' ') + 1);
            if (words.contains(brackets) || words.length() > 5 && brackets.contains(words)) {
                return true;
            }
        }
        return false;
    }
}
