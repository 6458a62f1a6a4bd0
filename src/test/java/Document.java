import java.io.IOException;
import java.nio.file.Files;
import java.nio.file.Path;
import java.util.ArrayList;
import java.util.LinkedHashMap;
import java.util.List;
import java.util.Map;
import java.util.regex.Matcher;
import java.util.regex.Pattern;

/** The document, cut into its sections and promises, and these into clauses: the parts of sentences that stand alone. */
final class Document {
    private static final Path PATH = Path.of("../shared/DOC.md");
    private static final Pattern PROMISE = Pattern.compile("## (Promise \\d+): .*");
    private static final Pattern SECTION = Pattern.compile("(\\d+)\\. [A-Z].*");
    private static final Pattern TITLE = Pattern.compile("## (.*)");

    /** The clauses by the place where they stand: "Section 5", "Promise 12" or a title. */
    private final Map<String, List<String>> clauses = new LinkedHashMap<>();
    private final StringBuilder paragraph = new StringBuilder();
    private String where = "";

    private Document() {
    }

    static Document read() throws IOException {
        Document document = new Document();
        for (String line : Files.readAllLines(PATH)) {
            document.take(line);
        }
        document.endParagraph();
        return document;
    }

    private void take(String line) {
        Matcher promise = PROMISE.matcher(line);
        Matcher section = SECTION.matcher(line);
        Matcher title = TITLE.matcher(line);
        if (promise.matches()) {
            enter(promise.group(1));
        } else if (title.matches()) {
            enter(title.group(1));
        } else if (section.matches() && !where.startsWith("Promise")) {
            enter("Section " + section.group(1));
        } else if (line.isBlank() || line.startsWith("`")) {
            // A line in backquotes is the signature of a promise.
            endParagraph();
        } else {
            if (line.startsWith("- ") || line.startsWith("  ")) {
                endParagraph();
            }
            paragraph.append(line.startsWith("- ") ? line.substring(2) : line.trim()).append(' ');
        }
    }

    private void enter(String place) {
        endParagraph();
        where = place;
        clauses.put(place, new ArrayList<>());
    }

    private void endParagraph() {
        String text = paragraph.toString().trim();
        paragraph.setLength(0);
        if (text.isEmpty() || where.isEmpty()) {
            return;
        }
        for (String clause : text.split("(?<=[.;])\\s+|(?<=\\.\\))\\s+")) {
            clauses.get(where).add(clause);
        }
    }

    Iterable<String> places() {
        return clauses.keySet();
    }

    List<String> clausesOf(String place) {
        return clauses.getOrDefault(place, List.of());
    }

    /** All that stands at a place, its clauses separated by one space. */
    String textOf(String place) {
        return String.join(" ", clausesOf(place));
    }
}
