import java.io.IOException;
import java.nio.file.Files;
import java.nio.file.Path;

/** ../shared/DOC.md with its white space folded, in which a test's words are looked up. */
final class Document {
    static final int PROMISES = 29;
    private final String text;

    Document() throws IOException {
        String raw = Files.readString(Path.of("../shared/DOC.md"));
        text = raw.replaceAll("```(text|java)?", " ").replaceAll("\\s+", " ");
    }

    String text() {
        return text;
    }

    /** Where the words stand in the promise's section, or else in the Terms; -1 if in neither. */
    int find(int promise, String words) {
        int own = findWithin(startOf(promise), startOf(promise + 1), words);
        return own >= 0 ? own : findWithin(startOfTerms(), startOf(1), words);
    }

    int startOfTerms() {
        return text.indexOf("## Terms");
    }

    int startOf(int promise) {
        return text.indexOf(promise > PROMISES ? "## Not promised" : "## Promise " + promise + ":");
    }

    private int findWithin(int from, int to, String words) {
        int at = text.indexOf(words, from);
        return at >= 0 && at + words.length() <= to ? at : -1;
    }
}
