import java.io.IOException;
import java.io.UncheckedIOException;
import java.nio.file.Files;
import java.nio.file.Path;
import java.util.ArrayList;
import java.util.List;
import java.util.regex.Matcher;
import java.util.regex.Pattern;

/** The document, with the places that tests have quoted: so that it can be told what is left out. */
final class Document {
    private static final Path FILE = Path.of("../shared/DOC.md");

    // Words by which a piece of a sentence names an edge of what it tells.
    private static final Pattern EDGE = Pattern.compile("\\d to \\d|-8|-9|\"-\"|at most|at least"
            + "|at first|above|below|not determined|without|\\bif\\b|none|no such|up to|or more"
            + "|or less|less than|rounded|latest|lesser|least|the first|smallest|also|side by side"
            + "|otherwise|greatest|just|Throws|TERM \\(|Of no PERSONS|ahead of|can be undone");

    private final String text;
    private final List<int[]> quoted = new ArrayList<>();

    private Document(String text) {
        this.text = text;
    }

    static Document read() {
        try {
            return new Document(Files.readString(FILE).replace("`", ""));
        } catch (IOException e) {
            throw new UncheckedIOException(e);
        }
    }

    /** Whether these words stand in that part; then they are quoted. */
    boolean quote(String part, String words) {
        int begin = beginOf(part);
        int place = begin < 0 ? -1 : text.indexOf(words, begin);
        if (place < 0 || place + words.length() > endOf(begin)) {
            return false;
        }
        quoted.add(new int[] {place, place + words.length()});
        return true;
    }

    private int beginOf(String part) {
        String heading = part.startsWith("section ")
                ? "\n== " + part.substring("section ".length()) + "."
                : "\n## " + part;
        for (int at = text.indexOf(heading); at >= 0; at = text.indexOf(heading, at + 1)) {
            char next = text.charAt(at + heading.length());
            if (next < '0' || next > '9') {
                return at + 1;
            }
        }
        return -1;
    }

    private int endOf(int begin) {
        int end = text.length();
        for (String heading : new String[] {"\n## ", "\n== ", "\nThe constructor and the methods"}) {
            int at = text.indexOf(heading, begin);
            end = at < 0 ? end : Math.min(end, at);
        }
        return end;
    }

    /** Piece by piece what names an edge and is not quoted, from the part on in which calls begin. */
    List<String> leftOut() {
        List<String> leftOut = new ArrayList<>();
        int from = text.indexOf("An object is used");
        addLeftOut(from, text.indexOf("\n## The public face"), leftOut);
        from = beginOf("Description");
        addLeftOut(from, text.indexOf("\nThe constructor and the methods"), leftOut);
        from = beginOf("Promise 1");
        addLeftOut(from, text.indexOf("\n## Not promised"), leftOut);
        return leftOut;
    }

    private void addLeftOut(int from, int to, List<String> leftOut) {
        Matcher end = Pattern.compile("[.;:]\\s|\\n").matcher(text).region(from, to);
        int begin = from;
        while (begin < to) {
            int next = end.find() ? end.end() : to;
            String piece = text.substring(begin, next).trim();
            if (EDGE.matcher(piece).find() && !isHeading(begin) && !isQuoted(begin, next)) {
                leftOut.add(piece);
            }
            begin = next;
        }
    }

    private boolean isHeading(int place) {
        int line = text.lastIndexOf('\n', place - 1) + 1;
        int end = text.indexOf('\n', line);
        return text.startsWith("##", line) || text.substring(line, end).contains(") throws ");
    }

    private boolean isQuoted(int begin, int end) {
        for (int[] place : quoted) {
            if (place[0] < end && place[1] > begin) {
                return true;
            }
        }
        return false;
    }
}
