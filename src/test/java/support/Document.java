import java.io.IOException;
import java.nio.file.Files;
import java.nio.file.Path;

/**
 * The document itself, read passage by passage: a test quotes each one in its order, so that none
 * is left out and a changed one is noticed. White space and the fences of code count as one blank.
 */
final class Document {
    private static final Path WHERE = Path.of("../shared/DOC.md");
    private static final int SHOWN = 60;

    private final Checks checks;
    private final String text;
    private int at;
    private String passage = "";

    /** The part from one heading to another; an empty heading: to the document's end. */
    Document(Checks checks, String from, String to) throws IOException {
        this.checks = checks;
        String all = plain(Files.readString(WHERE));
        int begin = all.indexOf(from);
        int end = to.isEmpty() ? all.length() : all.indexOf(to);
        checks.due("the document has " + from + " and " + to, begin >= 0 && end >= begin);
        text = begin >= 0 && end >= begin ? all.substring(begin, end) : "";
    }

    private static String plain(String raw) {
        return raw.replaceAll("```[a-z]*", " ").replaceAll("\\s+", " ").trim();
    }

    /** The next passage is this one, with nothing between it and the one before. */
    void says(String quoted) {
        String wanted = plain(quoted);
        passage = wanted;
        boolean there = text.startsWith(wanted, at);
        checks.due("the document says '" + wanted + "' where it says '" + rest() + "'", there);
        if (there) {
            at += wanted.length();
            while (at < text.length() && text.charAt(at) == ' ') {
                at++;
            }
        }
    }

    /** What is due by the passage that was quoted last. */
    void due(String call, long want, long got) {
        checks.due("'" + shortened(passage) + "': " + call, want, got);
    }

    void due(String what, boolean holds) {
        due(what, 1, holds ? 1 : 0);
    }

    void close() {
        checks.due("behind the last passage stands '" + rest() + "'", at == text.length());
    }

    private String rest() {
        return shortened(text.substring(Math.min(at, text.length())));
    }

    private static String shortened(String s) {
        return s.length() <= SHOWN ? s : s.substring(0, SHOWN) + " ..";
    }
}
