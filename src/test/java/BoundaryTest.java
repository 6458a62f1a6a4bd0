import java.io.IOException;
import java.util.Arrays;
import java.util.List;

/**
 * The boundary cases, sentence by sentence: each test names the section or the promise and quotes the sentence
 * (or the clause) that it is about. In the end the quotes are compared with the document, so that no sentence
 * is without a test, but for those that name no boundary case.
 */
public final class BoundaryTest {
    /** The sentences that only introduce others. */
    private static final List<Check.Quote> WITHOUT_A_BOUNDARY = List.of(
        new Check.Quote("Section 1", "A device may be installed at a position;"),
        new Check.Quote("Section 1", "Devices are inlets, scanners, chutes, screens, stores and stations."),
        new Check.Quote("Section 1", "Time is counted in ticks."),
        new Check.Quote("Section 4", "A tick consists of the following steps."),
        new Check.Quote("Section 4", "What happens depends on the device at the position, as described in section 5."),
        new Check.Quote("Section 11", "The constants:"),
        new Check.Quote("Section 11", "The constructor and the methods follow, a promise each: the signature, then what it does."),
        new Check.Quote("Promise 2", "---- setup"),
        new Check.Quote("Promise 12", "---- operations"),
        new Check.Quote("Promise 19", "---- state"),
        new Check.Quote("Promise 48", "---- texts"));

    public static void main(String[] args) throws IOException {
        Check check = new Check();
        RingBoundaries.all(check);
        ScannerBoundaries.all(check);
        OutletBoundaries.all(check);
        TextBoundaries.all(check);
        CallBoundaries.all(check);
        SetupCallBoundaries.all(check);
        OperationBoundaries.all(check);
        StateBoundaries.all(check);
        ForecastBoundaries.all(check);
        compareWithDocument(check, Document.read());
        check.end();
    }

    private static void compareWithDocument(Check check, Document document) {
        for (Check.Quote quote : check.quotes) {
            if (quote.checks == 0) {
                check.tell(quote, "no check is about it");
            }
            if (!document.textOf(quote.where).contains(quote.words)) {
                check.tell(quote, "the document does not say it there");
            }
        }
        for (Check.Quote quote : WITHOUT_A_BOUNDARY) {
            if (!document.textOf(quote.where).contains(quote.words)) {
                check.tell(quote, "the document does not say it there");
            }
        }
        for (String place : document.places()) {
            if (place.startsWith("Section") || place.startsWith("Promise")) {
                compareClauses(check, document, place);
            }
        }
    }

    /** A clause has its tests if every word of it stands in a quote; a long one may stand in several. */
    private static void compareClauses(Check check, Document document, String place) {
        String text = document.textOf(place);
        char[] rest = text.toCharArray();
        for (Check.Quote quote : check.quotes) {
            cover(rest, text, place, quote);
        }
        for (Check.Quote quote : WITHOUT_A_BOUNDARY) {
            cover(rest, text, place, quote);
        }
        int start = 0;
        for (String clause : document.clausesOf(place)) {
            int end = start + clause.length();
            if (new String(rest, start, end - start).matches(".*[A-Za-z0-9].*")) {
                check.tell(new Check.Quote(place, clause), "no test quotes it");
            }
            start = end + 1;
        }
    }

    private static void cover(char[] rest, String text, String place, Check.Quote quote) {
        if (!quote.where.equals(place)) {
            return;
        }
        for (int at = text.indexOf(quote.words); at >= 0; at = text.indexOf(quote.words, at + 1)) {
            Arrays.fill(rest, at, at + quote.words.length(), ' ');
        }
    }
}
