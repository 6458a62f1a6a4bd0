import java.util.ArrayList;
import java.util.List;

/** The boundary cases of section 10: the setup text and its errors. */
final class TextBoundaries {
    private static final int I = Scene.I;
    private static final int N = Scene.N;
    /** Every sort of device, flights, and both numbers at the end; its tokens are separated by one space each. */
    private static final String FULL = "ring 20 ; inlet 0 ; scanner 1 ; chute 2 room 3 switch 4 ; "
        + "screen 5 room 6 switch 7 times 8 9 10 exit 11 ; store 12 room 13 switch 1 exit 14 ; "
        + "station 15 room 16 switch 2 time 17 exit 18 ; flight 21 chute 0 open 22 close 23 ; "
        + "flight 24 chute 0 open 25 close 26 ; window 2 ; passes 4 ;";
    private static final String[] KEYWORDS = {"ring", "inlet", "scanner", "chute", "room", "switch", "screen", "times", "exit", "store",
        "station", "time", "flight", "open", "close", "window", "passes"};
    private static final String[] DEVICES = {"inlet 0;", "scanner 0;", "chute 0 room 1 switch 1;", "screen 0 room"
        + " 1 switch 1 times 1 1 1 exit 1;",
        "store 0 room 1 switch 1 exit 1;", "station 0 room 1 switch 1 time 1 exit 1;"};
    private final Check c;

    private TextBoundaries(Check check) {
        c = check;
    }

    static void all(Check check) {
        TextBoundaries b = new TextBoundaries(check);
        b.greedyTokens();
        b.whiteSpace();
        b.words();
        b.keywords();
        b.otherWords();
        b.digits();
        b.leadingZeros();
        b.semicolons();
        b.otherBytes();
        b.longDigits();
        b.setups();
        b.deviceForms();
        b.flightForms();
        b.values();
        b.positions();
        b.positionsOnceOnly();
        b.flightTicks();
        b.withoutWindowAndPasses();
        b.firstWrongToken();
        b.tooEarly();
        b.outOfRange();
        b.usedPositions();
        b.usedFlights();
        b.missingChutes();
        b.tooMany();
    }

    /** The tokens of FULL, with their places. */
    private static List<int[]> tokens() {
        List<int[]> found = new ArrayList<>();
        int start = 0;
        for (String token : FULL.split(" ")) {
            found.add(new int[] {start, start + token.length()});
            start += token.length() + 1;
        }
        return found;
    }

    private static String with(int[] token, String other) {
        return FULL.substring(0, token[0]) + other + FULL.substring(token[1]);
    }

    private void load(String what, String text, int error) {
        BaggageHandling x = new BaggageHandling();
        Check.put(x, text);
        int answer = x.load();
        c.due(what + ": errorPosition() of " + text, x.errorPosition(), error);
        c.due(what + ": load() of " + text, answer < 0, error >= 0);
    }

    private void greedyTokens() {
        c.says("Section 10", "Tokens are formed greedily.");
        c.text("ring20;inlet0;chute1room2switch3;flight7chute0open5close6;window0;passes1;");
        c.text("^ringinlet 20;");
        c.text("ring 20;^inletinlet 0;");
        c.text("ring 20;screen 0 room 1 switch 1 times ^123 exit 1;");
        c.text("ring 20;station 0 room 1 switch 1 ^times 1 exit 1;");
        c.text("ring 20;screen 0 room 1 switch 1 times 1 2 3exit 1;");
        c.text("ring ^1 0;");
        c.text("^ri ng 10;");
    }

    private void whiteSpace() {
        c.says("Section 10", "White space (bytes 32 and 10) may stand between any two tokens.");
        load("spaces", FULL, N);
        load("line feeds", FULL.replace(' ', '\n'), N);
        load("both, many of them", FULL.replace(" ", " \n\n  "), N);
        for (int[] token : tokens()) {
            load("a line feed behind a token", FULL.substring(0, token[1]) + "\n" + FULL.substring(token[1]), N);
        }
        load("none beside semicolons", FULL.replace(" ; ", ";"), N);
        load("none between words and numbers", FULL.replaceAll("(?<=[a-z;]) | (?=[a-z;])", ""), N);
        c.text("ring 10;^\tinlet 0;");
        c.text("ring 10;^\rinlet 0;");
        c.text("ring 10;^\u000binlet 0;");
        c.text("ring 10;^\u00a0inlet 0;");
    }

    private void words() {
        c.says("Section 10", "A maximal run of the letters a to z is a word.");
        for (char other : new char[] {'`', '{', 'A', 'Z', '@', '[', (char) 0xe4, (char) 0xff}) {
            load("a byte beside the letters", "ring" + other + " 10;", 4);
            load("a byte beside the letters", other + "ring 10;", 0);
        }
        c.text("^aring 10;");
        c.text("^ringa 10;");
        c.text("^ringz 10;");
        c.text("^zring 10;");
        c.text("^RING 10;");
        c.text("^rinG 10;");
    }

    private void keywords() {
        c.says("Section 10", "A word is a keyword if it is quoted in the grammar;");
        load("every keyword", FULL, N);
        for (String keyword : KEYWORDS) {
            if (!FULL.contains(keyword + " ")) {
                c.tell("FULL has no " + keyword);
            }
        }
        // Every keyword is the first wrong token wherever another one is due.
        for (int[] token : tokens()) {
            String due = FULL.substring(token[0], token[1]);
            boolean word = due.charAt(0) >= 'a';
            for (String keyword : KEYWORDS) {
                if (!keyword.equals(due) && !mayStand(due, keyword)) {
                    load(keyword + " for " + due, with(token, keyword), token[0]);
                }
            }
            load("; for " + due, with(token, ";"), due.equals(";") ? N : token[0]);
            if (word || due.equals(";")) {
                load("an INT for " + due, with(token, "1"), token[0]);
            }
        }
    }

    /** Where a clause can begin, the keyword of another clause may stand; then a later token is the wrong one. */
    private static boolean mayStand(String due, String keyword) {
        String clauses = " inlet scanner chute screen store station flight window passes ";
        return clauses.contains(" " + due + " ") && clauses.contains(" " + keyword + " ");
    }

    private void otherWords() {
        c.says("Section 10", "any other word is an invalid token.");
        for (int[] token : tokens()) {
            load("a word that is no keyword", with(token, "x"), token[0]);
            String due = FULL.substring(token[0], token[1]);
            if (due.charAt(0) >= 'a') {
                load("a keyword without its last letter", with(token, due.substring(0, due.length() - 1)), token[0]);
                load("a keyword without its first letter", with(token, due.substring(1)), token[0]);
                load("a keyword with a letter more", with(token, due + "x"), token[0]);
            }
        }
        c.text("ring 10;^rooms");
        c.text("ring 10;^setup");
        c.text("ring 10;^device");
    }

    private void digits() {
        c.says("Section 10", "A maximal run of digits is an INT;");
        c.text("ring 59;");
        c.text("ring 40;");
        load("a byte beside the digits", "ring 1/;", 5);
        load("a byte beside the digits", "ring 10/;", 7);
        load("a byte beside the digits", "ring 10:;", 7);
        load("a sign", "ring -10;", 5);
        load("a sign", "ring +10;", 5);
        load("a point", "ring 10.0;", 7);
        BaggageHandling x = Check.loaded("ring 60;inlet 12;inlet 34;inlet 56;scanner 7;scanner 8;scanner 9;");
        c.due("the digits mean what they should", Check.setupOf(x), "ring 60;inlet 12;inlet 34;inlet 56;scanner 7;scanner 8;scanner 9;"
            + "window 1;passes 3;");
    }

    private void leadingZeros() {
        c.says("Section 10", "it may have leading zeros and has 1 to 5 digits.");
        c.text("ring 010;");
        c.text("ring 0010;");
        c.text("ring 00010;");
        c.text("ring ^00009;");
        c.text("ring ^00061;");
        c.text("ring 10;inlet 00000;inlet 00001;");
        c.text("ring 10;inlet 0;inlet ^00000;");
        c.text("ring 10;chute 0 room 1 switch 1;flight 00001 chute 00000 open 00000 close 00001;");
        c.text("ring 10;chute 0 room 1 switch 1;flight 1 chute 0 open 99998 close 99999;");
        c.text("ring 10;inlet 0;scanner 1;");
    }

    private void semicolons() {
        c.says("Section 10", "The only other token is the semicolon.");
        c.text("ring 10;");
        c.text("ring 10^");
        c.text("ring 10 ^,");
        c.text("ring 10^:");
        c.text("ring 10^<");
        c.text("ring 10;^;");
        c.text("ring 10;inlet 1;^;");
    }

    private void otherBytes() {
        c.says("Section 10", "Any other byte and a longer run of digits are invalid tokens.");
        for (int b = 0; b < 256; b++) {
            boolean white = b == ' ' || b == '\n';
            boolean letter = b >= 'a' && b <= 'z';
            load("byte " + b + " at the end", "ring 10;" + (char) b, white ? N : 8);
            load("byte " + b + " at the beginning", (char) b + "ring 10;", white ? N : 0);
            load("byte " + b + " behind a word", "ring" + (char) b + "10;", white || b == '0' ? N : letter ? 0 : 4);
            load("byte " + b + " behind a number", "ring 10" + (char) b + ";", white ? N : b >= '0' && b <= '9' ? 5 : b == ';' ? 8 : 7);
        }
    }

    private void longDigits() {
        c.says("Section 10", "Any other byte and a longer run of digits are invalid tokens.");
        c.text("ring ^000010;");
        c.text("ring ^000000000010;");
        c.text("ring ^100000;");
        c.text("ring ^4294967306;");
        c.text("ring ^18446744073709551626;");
        c.text("ring 10;inlet ^000000;");
        c.text("ring 10;chute 0 room 1 switch 1;flight 1 chute 0 open 0 close ^100000;");
        c.text("ring 10;chute 0 room 1 switch 1;flight 1 chute 0 open ^000001 close 2;");
    }

    private void setups() {
        c.says("Section 10", "setup = \"ring\" INT \";\" { device } { flight } [ \"window\" INT \";\" ] [ \"passes\" INT \";\" ]");
        c.text("^");
        c.text("^inlet 0;");
        c.text("ring 10;");
        c.text("ring 10;^ring 10;");
        c.text("ring 10;window 1;");
        c.text("ring 10;passes 1;");
        c.text("ring 10;window 1;passes 1;");
        c.text("ring 10;passes 1;^window 1;");
        c.text("ring 10;window 1;^window 1;");
        c.text("ring 10;passes 1;^passes 1;");
        c.text("ring 10;window 1;^inlet 0;");
        c.text("ring 10;passes 1;^inlet 0;");
        String flight = "ring 10;chute 0 room 1 switch 1;flight 1 chute 0 open 0 close 1;";
        c.text(flight);
        c.text(flight + "^inlet 2;");
        c.text(flight + "^chute 2 room 1 switch 1;");
        c.text(flight + "window 1;");
        c.text(flight + "passes 1;");
        c.text(flight + "window 1;^flight 2 chute 0 open 0 close 1;");
        c.text(flight + "passes 1;^flight 2 chute 0 open 0 close 1;");
        c.text(flight + "window 1;passes 1;^ring 10;");
    }

    private void deviceForms() {
        c.says("Section 10", "device = \"inlet\" INT \";\" | \"scanner\" INT \";\" | \"chute\" INT \"room\" INT \"switch\" INT \";\""
            + " | \"screen\" INT \"room\" INT \"switch\" INT \"times\" INT INT INT \"exit\" INT \";\""
            + " | \"store\" INT \"room\" INT \"switch\" INT \"exit\" INT \";\""
            + " | \"station\" INT \"room\" INT \"switch\" INT \"time\" INT \"exit\" INT \";\"");
        for (String device : DEVICES) {
            c.text("ring 10;" + device);
        }
        c.text("ring 10;inlet 0 ^room 1;");
        c.text("ring 10;scanner 0 ^switch 1;");
        c.text("ring 10;chute 0 ^switch 1 room 1;");
        c.text("ring 10;chute 0 room 1^;");
        c.text("ring 10;chute 0 room 1 switch 1 ^exit 1;");
        c.text("ring 10;screen 0 room 1 switch 1 ^exit 1;");
        c.text("ring 10;screen 0 room 1 switch 1 ^time 1 exit 1;");
        c.text("ring 10;screen 0 room 1 switch 1 times 1 1 ^exit 1;");
        c.text("ring 10;screen 0 room 1 switch 1 times 1 1 1 ^1 exit 1;");
        c.text("ring 10;screen 0 room 1 switch 1 times 1 1 1^;");
        c.text("ring 10;store 0 room 1 switch 1 ^time 1 exit 1;");
        c.text("ring 10;store 0 room 1 switch 1^;");
        c.text("ring 10;station 0 room 1 switch 1 ^exit 1;");
        c.text("ring 10;station 0 room 1 switch 1 time 1 ^1 exit 1;");
        c.text("ring 10;station 0 room 1 switch 1 time 1^;");
    }

    private void flightForms() {
        c.says("Section 10", "flight = \"flight\" INT \"chute\" INT \"open\" INT \"close\" INT \";\"");
        String chute = "ring 10;chute 0 room 1 switch 1;";
        c.text(chute + "flight 1 chute 0 open 0 close 1;");
        c.text(chute + "flight ^chute 0 open 0 close 1;");
        c.text(chute + "flight 1 ^open 0 close 1;");
        c.text(chute + "flight 1 chute 0 ^close 1 open 0;");
        c.text(chute + "flight 1 chute 0 open 0^;");
        c.text(chute + "flight 1 chute 0 open 0 close 1 ^room 1;");
        c.text(chute + "flight 1 chute 0 open 0 close 1^");
    }

    /** Checks the least and the greatest value that can stand between two texts, and those beside them. */
    private void range(String before, int least, int greatest, String behind) {
        if (least > 0) {
            c.text(before + "^" + (least - 1) + behind);
        }
        c.text(before + least + behind);
        c.text(before + greatest + behind);
        c.text(before + "^" + (greatest + 1) + behind);
        c.text(before + "^99999" + behind);
    }

    private void values() {
        c.says("Section 10", "The first INT of a device is its position, \"room\" its capacity (1 to 20), \"switch\" its switching"
            + " time (1 to 9),"
            + " \"times\" and \"time\" are working times (1 to 99), and \"exit\" is the position of the exit.");
        for (String device : DEVICES) {
            String text = "ring 10;" + device;
            for (String word : new String[] {"room", "switch", "time", "exit"}) {
                int at = text.indexOf(word + " 1");
                if (at >= 0) {
                    int start = at + word.length() + 1;
                    int greatest = word.equals("room") ? 20 : word.equals("time") ? 99 : 9;
                    range(text.substring(0, start), 1, greatest, text.substring(start + 1));
                }
            }
        }
        String screen = "ring 10;screen 0 room 1 switch 1 times ";
        range(screen, 1, 99, " 5 5 exit 1;");
        range(screen + "5 ", 1, 99, " 5 exit 1;");
        range(screen + "5 5 ", 1, 99, " exit 1;");
        BaggageHandling x = Check.loaded("ring 10;station 7 room 1 switch 1 time 1 exit 3;");
        c.due("the position", x.deviceAt(7), 6);
        c.due("the position of the exit", x.deviceAt(3), 7);
    }

    private void positions() {
        c.says("Section 10", "Positions are 0 to n - 1.");
        for (int n : new int[] {10, 60}) {
            for (String device : DEVICES) {
                String text = device.replace("exit 1;", "exit 5;");
                int at = text.indexOf('0');
                range("ring " + n + ";" + text.substring(0, at), 0, n - 1, text.substring(at + 1));
                int exit = text.indexOf("exit ") + 5;
                if (exit >= 5) {
                    range("ring " + n + ";" + text.substring(0, exit), 1, n - 1, text.substring(exit + 1));
                }
            }
        }
    }

    private void positionsOnceOnly() {
        c.says("Section 10", "A position may be used once only, as the position of a device or as an exit.");
        for (String device : DEVICES) {
            for (String other : DEVICES) {
                int at = other.indexOf('0');
                String begin = "ring 10;" + device;
                c.text(begin + other.substring(0, at) + "^0" + other.substring(at + 1));
                c.text(begin + other.replace("0", "8").replace("exit 1", "exit 9"));
                if (device.contains("exit")) {
                    c.text(begin + other.substring(0, at) + "^1" + other.substring(at + 1));
                }
                if (other.contains("exit")) {
                    c.text(begin + other.replace("0", "8").replace("exit 1", "exit ^0"));
                    c.text(begin + other.replace("0", "8").replace("exit 1", device.contains("exit") ? "exit ^1" : "exit 1"));
                    c.text("ring 10;" + other.replace("exit 1", "exit ^0"));
                }
            }
        }
    }

    private void flightTicks() {
        c.says("Section 10", "A flight has its number, the number of its chute, its opening tick (0 to 99998) and its closing"
            + " tick (opening tick + 1 to 99999).");
        String chute = "ring 10;chute 0 room 1 switch 1;";
        range(chute + "flight ", 1, 999, " chute 0 open 0 close 1;");
        range(chute + "flight 1 chute ", 0, 0, " open 0 close 1;");
        c.text(chute + "flight 1 chute 0 open 0 close 1;");
        c.text(chute + "flight 1 chute 0 open 99998 close 99999;");
        c.text(chute + "flight 1 chute 0 open ^99999 close 99999;");
        c.text(chute + "flight 1 chute 0 open 0 close ^0;");
        c.text(chute + "flight 1 chute 0 open 500 close ^500;");
        c.text(chute + "flight 1 chute 0 open 500 close 501;");
        c.text(chute + "flight 1 chute 0 open 500 close ^499;");
        c.text(chute + "flight 1 chute 0 open 500 close 99999;");
        c.text(chute + "flight 1 chute 0 open 99998 close ^99998;");
        BaggageHandling x = Check.loaded(chute + "flight 1 chute 0 open 99998 close 99999;");
        Scene.runTo(x, 99997);
        c.due("early", x.flightState(0), 0);
        x.run(1);
        c.due("open", x.flightState(0), 1);
        x.run(1);
        c.due("closed", x.flightState(0), 2);
    }

    private void withoutWindowAndPasses() {
        c.says("Section 10", "Without \"window\" the tracking window is 1, and without \"passes\" the pass limit is 3.");
        String ring = "ring 20;inlet 0;scanner 5;";
        c.due("neither", Check.setupOf(Check.loaded(ring)), ring + "window 1;passes 3;");
        c.due("only the window", Check.setupOf(Check.loaded(ring + "window 2;")), ring + "window 2;passes 3;");
        c.due("only the passes", Check.setupOf(Check.loaded(ring + "passes 2;")), ring + "window 1;passes 2;");
        BaggageHandling near = Scene.withBags(ring, 1, 7001);
        near.run(6);
        near.slip(5);
        near.run(1);
        c.due("a record 1 ahead of its bag is found", near.count(0), 0);
        BaggageHandling far = Scene.withBags(ring, 1, 7001);
        far.run(7);
        Scene.slips(far, 6, 2);
        far.run(1);
        c.due("a record 2 ahead of its bag is not", far.count(0), 1);
        BaggageHandling y = Scene.withBags(ring, 1, 7001);
        Scene.runTo(y, 6 + 40);
        c.due("three passes are not too many", y.destination(5), 4);
        y.run(20);
        c.due("four passes are too many", y.destination(5), 6);
        BaggageHandling z = Check.loaded("ring 10;window 3;passes 9;");
        Check.put(z, "ring 10;");
        z.load();
        c.due("after another setup", Check.setupOf(z), "ring 10;window 1;passes 3;");
    }

    private void firstWrongToken() {
        c.says("Section 10", "The error position is the index of the first byte of the first token that cannot stand where it stands;");
        List<int[]> tokens = tokens();
        for (int i = 0; i < tokens.size(); i++) {
            load("one wrong token", with(tokens.get(i), "?"), tokens.get(i)[0]);
            load("wrong tokens from here on", FULL.substring(0, tokens.get(i)[0]) + "? ? 99999 ; x", tokens.get(i)[0]);
        }
        c.text("   ^x");
        c.text("\n\n^x ring 10;");
        c.text("ring 10;   ^x   y");
        c.text("ring   ^9;inlet 9;inlet 9;");
        c.text("ring 10;inlet ^10");
        c.text("ring 10;inlet 1;inlet ^1 x");
    }

    private void tooEarly() {
        c.says("Section 10", "it is the length of the text if the text ends too early.");
        c.text("^");
        c.text(" ^");
        c.text("\n \n^");
        for (int[] token : tokens()) {
            String cut = FULL.substring(0, token[1]);
            boolean whole = cut.endsWith(";");
            load("it ends behind a token", cut, whole ? N : cut.length());
            load("it ends behind white space", cut + " \n", whole ? N : cut.length() + 2);
        }
        c.text("ring 10;inlet 1^");
        c.text("ring 10;window^");
        c.text("ring 10;passes 9^");
    }

    private void outOfRange() {
        c.says("Section 10", "The following tokens cannot stand, either: an INT out of range;");
        range("ring ", 10, 60, ";");
        range("ring 10;window ", 0, 3, ";");
        range("ring 10;passes ", 1, 9, ";");
        range("ring 10;inlet ", 0, 9, ";");
        range("ring 60;inlet ", 0, 59, ";");
    }

    private void usedPositions() {
        c.says("Section 10", "a position that is used already;");
        c.text("ring 10;inlet 9;inlet 8;inlet ^9;");
        c.text("ring 10;inlet 9;scanner ^9;");
        c.text("ring 10;inlet 9;scanner ^009;");
        c.text("ring 10;store 1 room 1 switch 1 exit ^1;");
        c.text("ring 10;store 1 room 1 switch 1 exit 2;store ^2 room 1 switch 1 exit 3;");
        c.text("ring 10;store 1 room 1 switch 1 exit 2;store 3 room 1 switch 1 exit ^2;");
        // A position that a text with an error used is free for the next one.
        BaggageHandling x = new BaggageHandling();
        Check.put(x, "ring 10;inlet 5;scanner 6;x");
        c.due("a text with an error", x.load(), I);
        Check.put(x, "ring 10;inlet 5;scanner 6;");
        c.due("the positions are free", x.load(), 10);
    }

    private void usedFlights() {
        c.says("Section 10", "the number of a flight that is in the text already;");
        String two = "ring 10;chute 0 room 1 switch 1;flight 7 chute 0 open 0 close 1;flight 8 chute 0 open 0 close 1;";
        c.text(two + "flight ^7 chute 0 open 0 close 1;");
        c.text(two + "flight ^8 chute 0 open 0 close 1;");
        c.text(two + "flight ^008 chute 0 open 5 close 6;");
        c.text(two + "flight 9 chute 0 open 0 close 1;");
        c.text(two + "flight 6 chute 0 open 0 close 1;");
    }

    private void missingChutes() {
        c.says("Section 10", "the number of a chute that does not exist;");
        c.text("ring 10;flight 1 chute ^0 open 0 close 1;");
        StringBuilder s = new StringBuilder("ring 20;");
        for (int count = 1; count <= 6; count++) {
            s.append("chute " + count + " room 1 switch 1;");
            c.text(s + "flight 1 chute " + (count - 1) + " open 0 close 1;");
            c.text(s + "flight 1 chute ^" + count + " open 0 close 1;");
        }
    }

    private void tooMany() {
        c.says("Section 10", "the keyword of a 4th inlet, a 4th scanner, a 7th chute, a 3rd screen, a 3rd store, a 3rd station"
            + " or an 11th flight.");
        int[] most = {3, 3, 6, 2, 2, 2};
        StringBuilder all = new StringBuilder("ring 60;");
        int free = 0;
        for (int sort = 0; sort < 6; sort++) {
            StringBuilder s = new StringBuilder("ring 60;");
            for (int i = 0; i < most[sort]; i++) {
                String device = DEVICES[sort].replace("0", "" + free).replace("exit 1", "exit " + (free + 1));
                s.append(device);
                all.append(device);
                free += 2;
            }
            c.text(s.toString());
            // The keyword is the wrong token, even if what follows is wrong, too.
            c.text(s + "^" + DEVICES[sort].replace("0", "58").replace("exit 1", "exit 59"));
            c.text(s + "^" + DEVICES[sort].replace("0", "99"));
        }
        c.text(all.toString());
        for (String device : DEVICES) {
            c.text(all + "^" + device);
        }
        for (int i = 1; i <= 10; i++) {
            all.append("flight " + i + " chute 5 open 0 close 1;");
        }
        c.due("a tape has room for it", all.length() <= 900, true);
        c.text(all.toString());
        c.text(all + "^flight 11");
        c.text(all + "^flight 1");
    }
}
