import java.io.IOException;
import java.nio.file.Files;
import java.nio.file.Path;
import java.util.ArrayList;
import java.util.List;
import java.util.regex.Matcher;
import java.util.regex.Pattern;

/** The document's text from its start to the last promise, and what of it the tests quote. */
final class Document {
    private static final Path FILE = Path.of("../shared/DOC.md");

    private final String text;
    private final boolean[] quoted;

    Document() throws IOException {
        String all = Files.readString(FILE).replace("```text", "").replaceAll("```", "")
                .replaceAll("\\s+", " ");
        text = all.substring(all.indexOf("## What it is "), all.indexOf("## Not promised "));
        quoted = new boolean[text.length()];
        leaveOutWhatPromisesNothing();
    }

    /** The headings, the calls' heads, of which FaceTest knows, and what is told of the whole. */
    private void leaveOutWhatPromisesNothing() {
        leaveOut("## What it is A simulator of traffic\\.");
        leaveOut("## The public face .*?\\} ## Terms Its calls: .*? what would come\\.");
        leaveOut("## Promise \\d+: [^`]*`[^`]*`:");
        leaveOut("Ahead of the calls [^-]* the interface says: ---- [a-z ()]*\\.");
    }

    private void leaveOut(String pattern) {
        Matcher matcher = Pattern.compile(pattern).matcher(text);
        while (matcher.find()) {
            mark(matcher.start(), matcher.end());
        }
    }

    private void mark(int from, int to) {
        for (int i = from; i < to; i++) {
            quoted[i] = true;
        }
    }

    /** Tells whether the section says so. */
    boolean quote(String section, String words) {
        int start = text.indexOf("## " + section + (section.startsWith("Promise") ? ": " : " "));
        int next = text.indexOf("## ", start + 1);
        int end = next < 0 ? text.length() : next;
        int at = start < 0 ? -1 : text.indexOf(words, start);
        if (at < 0 || at + words.length() > end) {
            return false;
        }
        mark(at, at + words.length());
        return true;
    }

    List<String> unquoted() {
        List<String> pieces = new ArrayList<>();
        StringBuilder piece = new StringBuilder();
        for (int i = 0; i <= text.length(); i++) {
            if (i < text.length() && !quoted[i]) {
                piece.append(text.charAt(i));
            } else {
                if (!piece.toString().isBlank()) {
                    pieces.add(piece.toString().strip());
                }
                piece.setLength(0);
            }
        }
        return pieces;
    }
}
