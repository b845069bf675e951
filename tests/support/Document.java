import java.io.IOException;
import java.io.UncheckedIOException;
import java.nio.charset.StandardCharsets;
import java.nio.file.Files;
import java.nio.file.Paths;

/** ../shared/DOC.md, as far as the tests quote it. */
final class Document {
    static final int PROMISES = 32;
    private static final String FILE = "../shared/DOC.md";
    private static String whole = null;

    private Document() {
    }

    /** Whether these words stand in the promise, or in what is told ahead of all promises. */
    static boolean says(int promise, String words) {
        return promise(promise).contains(words) || terms().contains(words);
    }

    /** What a promise says, without its heading. */
    static String promise(int number) {
        String heading = "## Promise " + number + ": ";
        int start = text().indexOf(heading);
        if (start < 0) {
            return "";
        }
        int end = text().indexOf(" ## ", start + heading.length());
        String section = text().substring(start + heading.length(), end < 0 ? text().length() : end);
        int signatureEnd = section.indexOf("`: ");
        return signatureEnd < 0 ? section : section.substring(signatureEnd + 3);
    }

    static String terms() {
        int start = text().indexOf("## Terms");
        int end = text().indexOf("## Promise 1: ");
        return start < 0 || end < start ? "" : text().substring(start, end);
    }

    /** All in one line, so that it does not matter where the document breaks its lines. */
    private static String text() {
        if (whole == null) {
            try {
                byte[] bytes = Files.readAllBytes(Paths.get(FILE));
                whole = new String(bytes, StandardCharsets.UTF_8).replaceAll("\\s+", " ");
            } catch (IOException e) {
                throw new UncheckedIOException(e);
            }
        }
        return whole;
    }
}
