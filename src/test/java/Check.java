import java.util.ArrayList;
import java.util.List;

/** What the tests share: a count of wrong answers, and ways to load a setup and to read texts back. */
final class Check {
    /**
     * A bag of flight 7 with threat level 0 that is checked in at tick 0 enters at tick 1, is read at tick 3,
     * is screened from tick 5 on, comes back at position 5 at tick 7 and is in chute 0 at tick 15.
     */
    static final String PLANT = "ring 20;inlet 0;scanner 2;screen 4 room 2 switch 2 times 2 3 4 exit 5;"
        + "station 7 room 1 switch 1 time 3 exit 8;store 10 room 2 switch 1 exit 11;"
        + "chute 13 room 2 switch 3;chute 15 room 5 switch 1;"
        + "flight 7 chute 0 open 0 close 500;flight 8 chute 1 open 50 close 300;"
        + "flight 9 chute 1 open 0 close 100;window 1;passes 3;";

    /** A sentence of the document, or a clause of one, and how many checks are about it. */
    static final class Quote {
        final String where;
        final String words;
        int checks;

        Quote(String where, String words) {
            this.where = where;
            this.words = words;
        }
    }

    final List<Quote> quotes = new ArrayList<>();
    private int wrong = 0;
    private String subject = "";

    /** The checks that follow are about this promise. */
    void promise(int number) {
        subject = "promise " + number;
    }

    /** The checks that follow are about these words, which stand in a section or promise of the document. */
    void says(String where, String words) {
        quotes.add(new Quote(where, words));
        subject = where + ", \"" + words + "\"";
    }

    void due(String what, long got, long want) {
        due(what, String.valueOf(got), String.valueOf(want));
    }

    void due(String what, boolean got, boolean want) {
        due(what, String.valueOf(got), String.valueOf(want));
    }

    void due(String what, String got, String want) {
        if (!quotes.isEmpty()) {
            quotes.get(quotes.size() - 1).checks++;
        }
        if (!got.equals(want)) {
            tell(what + " answered " + got + ", due is " + want);
        }
    }

    /** Loads a text with its error marked by '^', or, without one, a good text, and checks the answers. */
    void text(String marked) {
        int error = marked.indexOf('^');
        BaggageHandling x = new BaggageHandling();
        put(x, marked.replace("^", ""));
        int answer = x.load();
        due("errorPosition() of " + marked, x.errorPosition(), error < 0 ? BaggageHandling.NOT_FOUND : error);
        due("load() of " + marked, answer >= 0, error < 0);
    }

    void tell(String fault) {
        wrong++;
        System.out.println(subject + ": " + fault);
    }

    void tell(Quote quote, String fault) {
        wrong++;
        System.out.println(quote.where + ", \"" + quote.words + "\": " + fault);
    }

    void end() {
        if (wrong != 0) {
            System.out.println(wrong + " answers are not as due");
            System.exit(1);
        }
    }

    /** Puts a text on the tape: whole pieces of twenty bytes, then what is too much is cut off. */
    static void put(BaggageHandling x, String text) {
        int padding = (20 - text.length() % 20) % 20;
        String padded = text + "~".repeat(padding);
        for (int i = 0; i < padded.length(); i += 20) {
            x.append(word(padded, i), word(padded, i + 4), word(padded, i + 8), word(padded, i + 12), word(padded, i + 16));
        }
        x.truncate(padding);
    }

    static int word(String text, int at) {
        return text.charAt(at) << 24 | text.charAt(at + 1) << 16 | text.charAt(at + 2) << 8 | text.charAt(at + 3);
    }

    static BaggageHandling loaded(String text) {
        BaggageHandling x = new BaggageHandling();
        put(x, text);
        if (x.load() < 0) {
            System.out.println("not loaded, error at " + x.errorPosition() + ": " + text);
        }
        return x;
    }

    /** A new object with the plant, in which a bag of flight 7 is checked in and so many ticks have run. */
    static BaggageHandling plantAfter(int ticks) {
        BaggageHandling x = loaded(PLANT);
        x.checkIn(0, 7001, 15, 0, 0, 0);
        if (ticks > 0) {
            x.run(ticks);
        }
        return x;
    }

    static String setupOf(BaggageHandling x) {
        StringBuilder s = new StringBuilder();
        for (int i = 0; i < x.setupLength(); i++) {
            s.append((char) x.setupByte(i));
        }
        return s.toString();
    }

    static String mapOf(BaggageHandling x) {
        StringBuilder s = new StringBuilder();
        for (int i = 0; i < x.mapLength(); i++) {
            s.append((char) x.mapByte(i));
        }
        return s.toString();
    }
}
