import java.io.IOException;
import java.nio.file.Files;
import java.nio.file.Path;
import java.util.regex.Matcher;
import java.util.regex.Pattern;

/**
 * The sentences of the document, each of which has a test of its own: a test tells the words that it tests, they are
 * looked up, and at the end no word of the terms and of the promises may be left that no test told.
 */
final class Edges {
    private static final Pattern NOT_QUOTED = Pattern.compile(
        "## Terms|==== \\d\\.|Ahead of the calls .*? the interface says: ---- .*?\\.|## Promise \\d+: [\\w ]+`[^`]*`:|The constants:");

    private final Check check = new Check();
    private final String doc;
    private final boolean[] quoted;
    private int from;
    private int to;

    Edges(Path document) throws IOException {
        String text = Files.readString(document).replace("```text", " ").replace("```", " ").replaceAll("\\s+", " ");
        doc = text;
        quoted = new boolean[doc.length()];
        Matcher heading = NOT_QUOTED.matcher(doc);
        while (heading.find()) {
            quote(heading.start(), heading.end());
        }
    }

    private void quote(int first, int end) {
        for (int i = first; i < end; i++) {
            quoted[i] = true;
        }
    }

    /** The tests that follow are about the part of the document between two texts. */
    private void part(String begin, String end) {
        from = doc.indexOf(begin);
        to = doc.indexOf(end, Math.max(from, 0));
        if (from < 0 || to < 0) {
            throw new IllegalArgumentException("not in the document: " + begin + " .. " + end);
        }
    }

    void preface() {
        part("## What it is", "## The public face");
    }

    void terms() {
        part("## Terms", "Ahead of the calls");
    }

    void promise(int n) {
        part("## Promise " + n + ":", n < 45 ? "## Promise " + (n + 1) + ":" : "## Not promised");
    }

    /** The tests that follow are about these words. */
    void says(String words) {
        int at = doc.indexOf(words, from);
        if (at < 0 || at + words.length() > to) {
            throw new IllegalArgumentException("not in this part of the document: " + words);
        }
        quote(at, at + words.length());
        check.about('"' + words + '"');
    }

    void due(String call, long got, long want) {
        check.due(call, got, want);
    }

    void end() {
        check.about("the document");
        int first = doc.indexOf("## Terms");
        int end = doc.indexOf("## Not promised");
        StringBuilder left = new StringBuilder();
        for (int i = first; i < end; i++) {
            if (!quoted[i] && doc.charAt(i) != ' ') {
                left.append(doc.charAt(i));
            } else if (left.length() > 0 && !quoted[i]) {
                left.append(' ');
            }
        }
        check.holds("words that no test told: " + left, left.toString().isBlank());
        check.end();
    }
}
