/** The boundary cases of promises 1 to 11 and 48 to 52: the tape, loading, what a setup says, and the texts. */
final class SetupCallBoundaries {
    private static final int I = Scene.I;
    private static final int N = Scene.N;
    private static final int MIN = Integer.MIN_VALUE;
    private static final int MAX = Integer.MAX_VALUE;
    private static final int SPACES = 0x20202020;
    private final Check c;

    private SetupCallBoundaries(Check check) {
        c = check;
    }

    static void all(Check check) {
        SetupCallBoundaries b = new SetupCallBoundaries(check);
        b.newObject();
        b.newHeads();
        b.appending();
        b.appendedBytes();
        b.appendAnswers();
        b.fullTape();
        b.truncating();
        b.truncateRange();
        b.loading();
        b.emptyTape();
        b.loadSucceeds();
        b.nothingOfTheFormerSetupIsLeft();
        b.nothingOfAnErrorIsLeft();
        b.loadFails();
        b.loadAnswers();
        b.errorPositions();
        b.positions();
        b.deviceSorts();
        b.deviceCounts();
        b.flights();
        b.flightNumbers();
        b.flightStates();
        b.mapLength();
        b.mapBytes();
        b.mapIndex();
        b.setupText();
        b.setupIndex();
        b.tapeLength();
    }

    // ---- promises 1 to 5

    private void newObject() {
        c.says("Promise 1", "Creates a system with an empty ring of 10 positions, without devices and flights, at tick 0, with an empty tape;");
        BaggageHandling x = new BaggageHandling();
        c.due("positions()", x.positions(), 10);
        c.due("map", Check.mapOf(x), "..........\n");
        for (int p = 0; p < 10; p++) {
            c.due("deviceAt(" + p + ")", x.deviceAt(p), 0);
        }
        for (int sort = 1; sort <= 6; sort++) {
            c.due("devices(" + sort + ")", x.devices(sort), 0);
        }
        c.due("flights()", x.flights(), 0);
        c.due("tick()", x.tick(), 0);
        c.due("tapeLength()", x.tapeLength(), 0);
        c.due("truncate(1)", x.truncate(1), I);
        c.due("bags()", x.bags(), 0);
        c.due("setup", Check.setupOf(x), "ring 10;window 1;passes 3;");
        for (int what = 0; what < 8; what++) {
            c.due("count(" + what + ")", x.count(what), 0);
        }
        c.due("undo()", x.undo(), I);
        c.due("run(300)", x.run(300), 0);
        c.due("map later", Check.mapOf(x), "..........\n");
    }

    private void newHeads() {
        c.says("Promise 1", "all heads work.");
        for (int head = 0; head < 4; head++) {
            c.due("head " + head + " works already", new BaggageHandling().setHead(head, true), false);
            c.due("head " + head + " can be put out of order", new BaggageHandling().setHead(head, false), true);
        }
    }

    private void appending() {
        c.says("Promise 2", "Appends twenty bytes to the tape: the four bytes of a, most significant byte first, then those of b, c, d and e.");
        BaggageHandling x = new BaggageHandling();
        x.append(0x72696e67, 0x2032303b, 0x696e6c65, 0x74203031, 0x39202020);
        x.append(0x3b202020, SPACES, SPACES, SPACES, SPACES);
        c.due("load() of ring 20;inlet 019   ;", x.load(), 20);
        c.due("deviceAt(19)", x.deviceAt(19), 1);
        c.due("setup", Check.setupOf(x), "ring 20;inlet 19;window 1;passes 3;");
    }

    /** Every byte of every word comes to its place: a wrong byte there is found there, whatever its highest bit. */
    private void appendedBytes() {
        String[] words = {"`a`: bytes 0 to 3", "`b`: bytes 4 to 7", "`c`: bytes 8 to 11", "`d`: bytes 12 to 15", "`e`: bytes 16 to 19"};
        for (int k = 0; k < 5; k++) {
            c.says("Promise 2", words[k]);
            for (int i = 4 * k; i < 4 * k + 4; i++) {
                for (int wrong : new int[] {0x00, 0x21, 0x7f, 0x80, 0xff}) {
                    int[] w = {SPACES, SPACES, SPACES, SPACES, SPACES};
                    int shift = 24 - 8 * (i % 4);
                    w[k] = w[k] & ~(0xff << shift) | wrong << shift;
                    BaggageHandling x = new BaggageHandling();
                    x.append(w[0], w[1], w[2], w[3], w[4]);
                    x.load();
                    c.due("byte " + i + " is " + wrong, x.errorPosition(), i);
                }
            }
        }
    }

    private void appendAnswers() {
        c.says("Promise 2", "Returns the new length of the tape;");
        BaggageHandling x = new BaggageHandling();
        for (int i = 1; i <= 45; i++) {
            c.due("append " + i, x.append(i, -i, 0, MIN, MAX), 20 * i);
        }
        x.truncate(893);
        c.due("append behind 7 bytes", x.append(0, 0, 0, 0, 0), 27);
    }

    private void fullTape() {
        c.says("Promise 2", "INVALID if it would exceed 900 bytes (nothing is appended).");
        BaggageHandling x = new BaggageHandling();
        for (int i = 0; i < 44; i++) {
            x.append(0, 0, 0, 0, 0);
        }
        c.due("to 900 bytes", x.append(0, 0, 0, 0, 0), 900);
        c.due("to 920 bytes", x.append(0, 0, 0, 0, 0), I);
        c.due("nothing is appended", x.tapeLength(), 900);
        x.truncate(19);
        c.due("to 901 bytes", x.append(0, 0, 0, 0, 0), I);
        c.due("nothing is appended", x.tapeLength(), 881);
        x.truncate(1);
        c.due("to 900 bytes", x.append(0, 0, 0, 0, 0), 900);
        // A text of 900 bytes is read to its end, and what was refused is not read.
        BaggageHandling y = new BaggageHandling();
        Check.put(y, "ring 10;" + " ".repeat(884) + "inlet 3;");
        c.due("tapeLength()", y.tapeLength(), 900);
        c.due("append", y.append(0, 0, 0, 0, 0), I);
        c.due("load()", y.load(), 10);
        c.due("deviceAt(3)", y.deviceAt(3), 1);
        BaggageHandling z = new BaggageHandling();
        Check.put(z, "ring 10;" + " ".repeat(891) + "?");
        z.load();
        c.due("errorPosition()", z.errorPosition(), 899);
    }

    private void truncating() {
        c.says("Promise 3", "Removes the last bytes of the tape.");
        BaggageHandling x = new BaggageHandling();
        x.append(0x72696e67, 0x2031323b, 0x78787878, 0x78787878, 0x78787878);
        x.truncate(12);
        c.due("load() of ring 12;", x.load(), 12);
        x.append(0x72696e67, 0x2031323b, 0x78787878, 0x78787878, 0x78787878);
        x.truncate(12);
        x.append(0x696e6c65, 0x7420373b, SPACES, SPACES, SPACES);
        c.due("load() of ring 12;inlet 7;", x.load(), 12);
        c.due("deviceAt(7)", x.deviceAt(7), 1);
    }

    private void truncateRange() {
        c.says("Promise 3", "`n`: number of bytes, 0 to the length of the tape");
        BaggageHandling x = new BaggageHandling();
        c.due("truncate(0) of an empty tape", x.truncate(0), 0);
        x.append(0, 0, 0, 0, 0);
        c.due("truncate(0)", x.truncate(0), 20);
        c.due("truncate(20)", x.truncate(20), 0);
        c.says("Promise 3", "Returns the new length of the tape;");
        x.append(0, 0, 0, 0, 0);
        c.due("truncate(1)", x.truncate(1), 19);
        c.due("truncate(18)", x.truncate(18), 1);
        c.due("truncate(1)", x.truncate(1), 0);
        c.says("Promise 3", "INVALID if n is out of range.");
        c.due("truncate(1) of an empty tape", x.truncate(1), I);
        c.due("truncate(-1) of an empty tape", x.truncate(-1), I);
        x.append(0, 0, 0, 0, 0);
        for (int bad : new int[] {MIN, -20, -1, 21, 40, MAX}) {
            c.due("truncate(" + bad + ")", x.truncate(bad), I);
            c.due("nothing is removed", x.tapeLength(), 20);
        }
    }

    private void loading() {
        c.says("Promise 4", "Parses the tape as a setup text.");
        BaggageHandling x = new BaggageHandling();
        c.due("an empty tape", x.load(), I);
        c.due("errorPosition() of an empty tape", x.errorPosition(), 0);
        Check.put(x, "ring 10");
        c.due("without a semicolon", x.load(), I);
        Check.put(x, "ring 10;");
        c.due("the shortest text", x.load(), 10);
    }

    private void emptyTape() {
        c.says("Promise 4", "The tape is empty afterwards.");
        BaggageHandling x = new BaggageHandling();
        x.load();
        c.due("after an empty one", x.tapeLength(), 0);
        Check.put(x, "ring 10;");
        x.load();
        c.due("after a good one", x.tapeLength(), 0);
        Check.put(x, "ring 10;inlet x");
        x.load();
        c.due("after a bad one", x.tapeLength(), 0);
        x.load();
        c.due("nothing of it is left", x.errorPosition(), 0);
        c.due("truncate(1)", x.truncate(1), I);
        Check.put(x, "ring 11;");
        c.due("the next text begins at 0", x.load(), 11);
    }

    private void loadSucceeds() {
        c.says("Promise 4", "On success the setup is replaced, it is tick 0, there are no bags and records, all heads work, all counts are 0"
            + " and nothing can be undone.");
        String other = "ring 30;inlet 0;inlet 16;scanner 1;chute 20 room 1 switch 1;flight 7 chute 0 open 0 close 9;window 2;passes 1;";
        BaggageHandling x = Scene.busy();
        x.truncate(8);
        Check.put(x, other);
        c.due("load()", x.load(), 30);
        c.due("setup", Check.setupOf(x), other);
        c.due("tick()", x.tick(), 0);
        c.due("bags()", x.bags(), 0);
        c.due("onRing()", x.onRing(), 0);
        c.due("waiting", x.waiting(0) + x.waiting(1), 0);
        c.due("chuteSize(0)", x.chuteSize(0), 0);
        c.due("readyAt(20)", x.readyAt(20), 0);
        c.due("map", Scene.map(x), ".".repeat(30));
        for (int what = 0; what < 8; what++) {
            c.due("count(" + what + ")", x.count(what), 0);
        }
        c.due("undo()", x.undo(), I);
        Scene.dueSame(c, "as a new object with that setup", x, Check.loaded(other));
    }

    /** Bags are checked in and run in the same way, so that everything a setup or its bags left behind would be seen. */
    private void dueSameRun(String what, BaggageHandling x, BaggageHandling y) {
        c.due(what, Scene.everything(x), Scene.everything(y));
        for (int i = 0; i < 30; i++) {
            for (BaggageHandling each : new BaggageHandling[] {x, y}) {
                each.checkIn(i % 2, i % 3 == 0 ? 0 : 7001 + i, 15, i % 5 == 0 ? 8001 : 0, 15, i % 4);
                each.run(3);
                each.slip(i);
            }
            c.due(what + ", tick " + x.tick(), Scene.everything(x), Scene.everything(y));
        }
    }

    private void nothingOfTheFormerSetupIsLeft() {
        c.says("Promise 4", "On success the setup is replaced, it is tick 0, there are no bags and records,");
        String same = Check.setupOf(Scene.busy());
        BaggageHandling busy = Scene.busy();
        busy.truncate(8);
        Check.put(busy, same);
        busy.load();
        dueSameRun("the same setup once more", busy, Check.loaded(same));
        // A load in the middle of the work of a station and of a screen: they begin anew.
        for (int ticks = 5; ticks <= 16; ticks++) {
            BaggageHandling x = Check.loaded(Check.PLANT);
            x.checkIn(0, 7001, 15, 0, 0, 3);
            x.checkIn(0, 7001, 0, 0, 0, 0);
            x.run(ticks);
            Check.put(x, Check.PLANT);
            x.load();
            dueSameRun("the plant once more after " + ticks + " ticks", x, Check.loaded(Check.PLANT));
        }
        String longer = "ring 60;inlet 59;inlet 58;scanner 50;chute 40 room 20 switch 9;screen 30 room 2 switch 9 times 9 9 9 exit 20;"
            + "flight 7 chute 0 open 0 close 99;flight 8 chute 0 open 0 close 99;window 3;passes 9;";
        String shorter = "ring 10;inlet 9;inlet 4;scanner 0;screen 2 room 1 switch 1 times 1 1 1 exit 3;";
        for (int ticks = 1; ticks <= 60; ticks++) {
            BaggageHandling x = Check.loaded(longer);
            Scene.bags(x, 3, 7001);
            x.run(ticks);
            Check.put(x, shorter);
            x.load();
            c.due("deviceAt(59)", x.deviceAt(59), I);
            c.due("map", Scene.map(x), "..........");
            if (ticks > 57) {
                dueSameRun("a shorter ring after " + ticks + " ticks of a longer one", x, Check.loaded(shorter));
            }
        }
        BaggageHandling y = Check.loaded(longer);
        Check.put(y, "ring 10;inlet 0;chute 1 room 1 switch 1;flight 9 chute 0 open 0 close 99;");
        y.load();
        c.due("flights()", y.flights(), 1);
        c.due("a label of a flight that is gone", y.properLabel(Scene.bag(y, 8001)), N);
        c.due("a label of the new flight", y.properLabel(Scene.bag(y, 9001)), 9001);
        for (String text : new String[] {longer, shorter + "window 1;passes 3;", longer, longer, shorter + "window 0;passes 1;"}) {
            Check.put(y, text);
            y.load();
            c.due("one setup after another", Check.setupOf(y), text);
        }
    }

    private void nothingOfAnErrorIsLeft() {
        c.says("Promise 4", "On an error everything but the tape and the error position stays.");
        StringBuilder s = new StringBuilder("ring 60;inlet 0;inlet 1;inlet 2;scanner 3;scanner 4;scanner 5;");
        for (int p = 6; p < 12; p++) {
            s.append("chute " + p + " room 1 switch 1;");
        }
        for (int p = 12; p < 24; p += 6) {
            s.append("screen " + p + " room 1 switch 1 times 1 1 1 exit " + (p + 1) + ";store " + (p + 2) + " room 1 switch 1 exit " + (p + 3)
                + ";station " + (p + 4) + " room 1 switch 1 time 1 exit " + (p + 5) + ";");
        }
        for (int i = 1; i <= 10; i++) {
            s.append("flight " + i + " chute 5 open 0 close 1;");
        }
        BaggageHandling x = new BaggageHandling();
        for (int i = 0; i < 3; i++) {
            Check.put(x, s + "window 0;passes 1;x");
            c.due("an error at the end", x.load(), I);
            c.due("errorPosition()", x.errorPosition(), s.length() + 18);
        }
        Check.put(x, s + "window 0;passes 1;");
        c.due("the same text without the error", x.load(), 60);
        c.due("setup", Check.setupOf(x), s + "window 0;passes 1;");
        Check.put(x, s + "window 0;passes 1;x");
        x.load();
        Check.put(x, "ring 10;");
        x.load();
        c.due("a short text", Check.setupOf(x), "ring 10;window 1;passes 3;");
    }

    private void loadFails() {
        c.says("Promise 4", "On an error everything but the tape and the error position stays.");
        String[] bad = {"", "x", "ring 9;", "ring 30;inlet 0;scanner 0;", "ring 10;chute 0 room 1 switch 1;flight 1 chute 1 open 0 close 1;",
            "ring 60;inlet 59;inlet 58;scanner 57;window 3;passes 9;x"};
        for (String text : bad) {
            BaggageHandling x = Scene.busy();
            x.truncate(8);
            Check.put(x, text);
            c.due("load() of " + text, x.load(), I);
            // The other one gets the same tape and error position by a text that has its error at the same place.
            BaggageHandling y = Scene.busy();
            y.truncate(8);
            int error = x.errorPosition();
            Check.put(y, " ".repeat(error));
            y.load();
            c.due("errorPosition() of spaces", y.errorPosition(), error);
            c.due("the setup", Check.setupOf(x), Check.setupOf(Scene.busy()));
            Scene.dueSame(c, "after an error in " + text, x, y);
        }
    }

    private void loadAnswers() {
        c.says("Promise 4", "Returns the number of positions; INVALID on an error.");
        for (int n = 10; n <= 60; n++) {
            BaggageHandling x = new BaggageHandling();
            Check.put(x, "ring " + n + ";");
            c.due("ring " + n, x.load(), n);
            Check.put(x, "ring " + n);
            c.due("an error", x.load(), I);
            c.due("positions() after the error", x.positions(), n);
        }
    }

    private void errorPositions() {
        c.says("Promise 5", "Returns the error position of the latest load.");
        BaggageHandling x = new BaggageHandling();
        Check.put(x, "ring 9;");
        c.due("before the load", x.errorPosition(), N);
        x.load();
        c.due("after the load", x.errorPosition(), 5);
        Check.put(x, "ring 10;   x");
        c.due("before the next load", x.errorPosition(), 5);
        x.load();
        c.due("after the next load", x.errorPosition(), 11);
        x.load();
        c.due("of an empty tape", x.errorPosition(), 0);
        c.says("Promise 5", "Returns the position; NOT_FOUND if that load succeeded or there was no load.");
        Check.put(x, "ring 10;");
        x.load();
        c.due("after a good load", x.errorPosition(), N);
        c.due("without a load", new BaggageHandling().errorPosition(), N);
        BaggageHandling longest = new BaggageHandling();
        Check.put(longest, "ring" + " ".repeat(896));
        longest.load();
        c.due("the greatest position", longest.errorPosition(), 900);
    }

    // ---- promises 6 to 11

    private void positions() {
        c.says("Promise 6", "Returns the number of positions of the ring. Returns the number.");
        c.due("of a new object", new BaggageHandling().positions(), 10);
        c.due("of the longest ring", Check.loaded("ring 60;").positions(), 60);
        BaggageHandling x = Check.loaded("ring 33;");
        Check.put(x, "ring 12;x");
        x.load();
        c.due("after an error", x.positions(), 33);
    }

    private void deviceSorts() {
        c.says("Promise 7", "Returns the sort of the device at a position.");
        BaggageHandling x = Check.loaded("ring 10;inlet 0;scanner 1;chute 2 room 1 switch 1;screen 3 room 1 switch 1 times 1 1 1 exit 4;"
            + "store 5 room 1 switch 1 exit 6;station 7 room 1 switch 1 time 1 exit 9;");
        c.due("deviceAt(5)", x.deviceAt(5), 5);
        c.says("Promise 7", "Returns 0 none, 1 inlet, 2 scanner, 3 chute, 4 screen, 5 store, 6 station, 7 exit;");
        int[] sorts = {1, 2, 3, 4, 7, 5, 7, 6, 0, 7};
        for (int p = 0; p < 10; p++) {
            c.due("deviceAt(" + p + ")", x.deviceAt(p), sorts[p]);
        }
        c.says("Promise 7", "`position`: a position");
        BaggageHandling longest = Check.loaded("ring 60;inlet 59;inlet 0;");
        c.due("the first one", longest.deviceAt(0), 1);
        c.due("the last one", longest.deviceAt(59), 1);
        Check.put(longest, "ring 20;inlet 19;");
        longest.load();
        c.due("the last one of a shorter ring", longest.deviceAt(19), 1);
        c.due("none of a shorter ring", longest.deviceAt(59), I);
        c.says("Promise 7", "INVALID for an invalid argument.");
        for (int bad : new int[] {MIN, -1, 10, 11, 60, MAX}) {
            c.due("deviceAt(" + bad + ")", x.deviceAt(bad), I);
        }
    }

    private void deviceCounts() {
        c.says("Promise 8", "Returns the number of devices of a sort.");
        int[] counts = {3, 2, 6, 2, 1, 0};
        BaggageHandling x = Check.loaded("ring 30;inlet 0;inlet 1;inlet 2;scanner 3;scanner 4;chute 5 room 1 switch 1;chute 6 room 1 switch 1;"
            + "chute 7 room 1 switch 1;chute 8 room 1 switch 1;chute 9 room 1 switch 1;chute 10 room 1 switch 1;"
            + "screen 11 room 1 switch 1 times 1 1 1 exit 12;screen 13 room 1 switch 1 times 1 1 1 exit 14;store 15 room 1 switch 1 exit 16;");
        for (int sort = 1; sort <= 6; sort++) {
            c.due("devices(" + sort + ")", x.devices(sort), counts[sort - 1]);
        }
        c.says("Promise 8", "Returns the number;");
        c.due("none of a sort", x.devices(6), 0);
        c.due("as many as there can be", x.devices(3), 6);
        c.says("Promise 8", "`sort`: 1 to 6 as for deviceAt()");
        c.due("devices(1)", x.devices(1), 3);
        c.due("devices(6)", x.devices(6), 0);
        c.says("Promise 8", "INVALID for an invalid argument.");
        for (int bad : new int[] {MIN, -1, 0, 7, 8, MAX}) {
            c.due("devices(" + bad + ")", x.devices(bad), I);
        }
    }

    private static BaggageHandling withFlights(int count) {
        StringBuilder s = new StringBuilder("ring 10;chute 0 room 1 switch 1;");
        for (int i = 0; i < count; i++) {
            s.append("flight " + (i == 0 ? 999 : i) + " chute 0 open 5 close 7;");
        }
        return Check.loaded(s.toString());
    }

    private void flights() {
        c.says("Promise 9", "Returns the number of flights. Returns the number.");
        for (int count : new int[] {0, 1, 9, 10}) {
            c.due("flights()", withFlights(count).flights(), count);
        }
    }

    private void flightNumbers() {
        c.says("Promise 10", "Returns the number of a flight.");
        BaggageHandling x = withFlights(10);
        c.due("flightNumber(5)", x.flightNumber(5), 5);
        c.says("Promise 10", "Returns its number;");
        c.due("the greatest number", x.flightNumber(0), 999);
        c.due("the least number", x.flightNumber(1), 1);
        c.says("Promise 10", "`flight`: index of a flight");
        c.due("the last index", x.flightNumber(9), 9);
        c.says("Promise 10", "INVALID for an invalid argument.");
        for (int bad : new int[] {MIN, -1, 10, 999, MAX}) {
            c.due("flightNumber(" + bad + ")", x.flightNumber(bad), I);
        }
        c.due("flightNumber(0) without flights", new BaggageHandling().flightNumber(0), I);
    }

    private void flightStates() {
        c.says("Promise 11", "Returns 0 early, 1 open, 2 closed;");
        int[] states = {0, 0, 0, 0, 0, 1, 1, 2, 2};
        BaggageHandling x = withFlights(10);
        for (int tick = 0; tick < 9; tick++) {
            c.due("at tick " + tick, x.flightState(0), states[tick]);
            c.due("the last one at tick " + tick, x.flightState(9), states[tick]);
            x.run(1);
        }
        c.says("Promise 11", "Returns the state of a flight at the present tick.");
        x.undo();
        x.undo();
        x.undo();
        c.due("at tick 6 again", x.flightState(0), 1);
        c.says("Promise 11", "`flight`: index of a flight");
        c.due("the first index", x.flightState(0), 1);
        c.due("the last index", x.flightState(9), 1);
        c.says("Promise 11", "INVALID for an invalid argument.");
        for (int bad : new int[] {MIN, -1, 10, MAX}) {
            c.due("flightState(" + bad + ")", x.flightState(bad), I);
        }
        c.due("flightState(0) without flights", new BaggageHandling().flightState(0), I);
    }

    // ---- promises 48 to 52

    private void mapLength() {
        c.says("Promise 48", "Returns the length of the map. It has one byte for each position:");
        for (int n : new int[] {10, 11, 59, 60}) {
            c.due("mapLength() of ring " + n, Check.loaded("ring " + n + ";").mapLength(), n + 1);
        }
        c.says("Promise 48", "Returns the number of bytes.");
        c.due("of a new object", new BaggageHandling().mapLength(), 11);
        c.due("the bags do not change it", Scene.busy().mapLength(), 31);
    }

    private void mapBytes() {
        c.says("Promise 48", "It has one byte for each position: a letter for a bag with a record (a for a bag that is not read,"
            + " b for an ambiguous label,"
            + " c for a label that is not cleared, d for a cleared one), an x for a bag without a record, an o for a record without a bag,"
            + " and a point for an empty position.");
        BaggageHandling x = Check.loaded("ring 14;inlet 0;scanner 2;screen 4 room 2 switch 1 times 1 1 1 exit 5;");
        c.due("all empty", Scene.map(x), ".".repeat(14));
        x.checkIn(0, 7001, 15, 0, 0, 0);
        x.run(1);
        c.due("not read, before the scanner", Scene.map(x).charAt(0), 'a');
        x.checkIn(0, 0, 0, 0, 0, 0);
        x.checkIn(0, 7001, 15, 8001, 15, 0);
        x.run(2);
        c.due("not cleared", Scene.map(x).charAt(2), 'c');
        x.checkIn(0, 7002, 15, 0, 0, 0);
        x.run(4);
        c.due("not cleared, ambiguous, not read, cleared", Scene.map(x), "...cbad.......");
        x.slip(3);
        c.due("a bag alone, a record alone", Scene.map(x), "..xobad.......");
        BaggageHandling y = Check.plantAfter(7);
        c.due("cleared", Scene.map(y), ".....d..............");
        y.takeOff(5);
        c.due("cleared, but without a bag", Scene.map(y), ".....o..............");
        c.says("Promise 48", "At the end there is a line feed (byte 10).");
        c.due("the last byte", x.mapByte(14), 10);
        c.due("the last byte of the longest one", Check.loaded("ring 60;").mapByte(60), 10);
    }

    private void mapIndex() {
        c.says("Promise 49", "Returns a byte of the map.");
        BaggageHandling x = Scene.withBags("ring 60;inlet 59;inlet 0;", 1, 7001);
        x.checkIn(1, 7001, 15, 0, 0, 0);
        x.run(1);
        c.due("mapByte(58)", x.mapByte(58), '.');
        c.due("mapByte(59)", x.mapByte(59), 'a');
        c.says("Promise 49", "Returns the byte;");
        c.due("mapByte(59)", x.mapByte(59), 97);
        c.due("mapByte(58)", x.mapByte(58), 46);
        c.says("Promise 49", "`i`: index, from 0");
        c.due("mapByte(0)", x.mapByte(0), 'a');
        c.due("mapByte(1)", x.mapByte(1), '.');
        c.says("Promise 49", "INVALID for a negative i;");
        c.due("mapByte(-1)", x.mapByte(-1), I);
        c.due("mapByte(MIN)", x.mapByte(MIN), I);
        c.says("Promise 49", "NOT_FOUND if the map is not so long.");
        c.due("mapByte(60)", x.mapByte(60), 10);
        c.due("mapByte(61)", x.mapByte(61), N);
        c.due("mapByte(MAX)", x.mapByte(MAX), N);
        c.due("mapByte(11) of a new object", new BaggageHandling().mapByte(11), N);
    }

    private void setupText() {
        c.says("Promise 50", "Returns the length of the setup text that describes the present setup.");
        c.due("of a new object", new BaggageHandling().setupLength(), 26);
        BaggageHandling x = Check.loaded("ring 60;passes 9;");
        c.due("after a load", Check.setupOf(x), "ring 60;window 1;passes 9;");
        Check.put(x, "ring 60;inlet");
        x.load();
        c.due("after an error", Check.setupOf(x), "ring 60;window 1;passes 9;");
        c.says("Promise 50", "It contains the ring, the devices in the order in which they stood in the setup text, the flights in their order,"
            + " the window and the passes.");
        String mixed = "ring 30;scanner 29;store 1 room 3 switch 4 exit 0;inlet 2;station 5 room 20 switch 9 time 99 exit 4;scanner 3;"
            + "chute 12 room 1 switch 1;inlet 11;screen 20 room 5 switch 5 times 9 10 99 exit 10;chute 9 room 10 switch 2;"
            + "flight 999 chute 1 open 10 close 100;flight 1 chute 0 open 0 close 99999;flight 500 chute 1 open 99998 close 99999;"
            + "window 0;passes 9;";
        c.due("mixed", Check.setupOf(Check.loaded(mixed)), mixed);
        c.due("the passes alone", Check.setupOf(Check.loaded("ring 10;inlet 0;passes 1;")), "ring 10;inlet 0;window 1;passes 1;");
        c.says("Promise 50", "Tokens are separated by one space, but there is no space before a semicolon, and nothing between"
            + " a semicolon and the next token.");
        c.due("other white space, leading zeros", Check.setupOf(Check.loaded("ring0030 ;\n\n scanner 029\n;station 5room 020switch 9 time"
            + " 00099 exit 00000 ; window 0;")),
            "ring 30;scanner 29;station 5 room 20 switch 9 time 99 exit 0;window 0;passes 3;");
        for (int open : new int[] {0, 9, 10, 11, 99, 100, 101, 999, 1000, 9999, 10000, 10001, 20000, 54321, 90000, 99998}) {
            String text = "ring 10;chute 0 room 1 switch 1;flight 1 chute 0 open " + open + " close " + (open + 1) + ";window 1;passes 3;";
            c.due("the number " + open, Check.setupOf(Check.loaded(text)), text);
        }
        c.says("Promise 50", "Returns the number of bytes.");
        c.due("mixed", Check.loaded(mixed).setupLength(), mixed.length());
        c.due("the longest text is longer than a tape", longest().setupLength(), 918);
    }

    /** The longest setup text; it fits on the tape without the spaces that the tape does not need. */
    private static BaggageHandling longest() {
        StringBuilder s = new StringBuilder("ring60;inlet59;inlet58;inlet57;scanner56;scanner55;scanner54;");
        for (int p = 53; p > 47; p--) {
            s.append("chute" + p + "room20switch9;");
        }
        for (int p = 47; p > 43; p -= 2) {
            s.append("screen" + p + "room20switch9times99 98 97exit" + (p - 1) + ";");
        }
        for (int p = 43; p > 39; p -= 2) {
            s.append("store" + p + "room20switch9exit" + (p - 1) + ";");
        }
        for (int p = 39; p > 35; p -= 2) {
            s.append("station" + p + "room20switch9time96exit" + (p - 1) + ";");
        }
        for (int i = 0; i < 10; i++) {
            s.append("flight" + (999 - i) + "chute" + i % 6 + "open9999" + i % 9 + "close99999;");
        }
        return Check.loaded(s + "window3;passes8;");
    }

    private void setupIndex() {
        c.says("Promise 51", "Returns a byte of that setup text.");
        BaggageHandling x = new BaggageHandling();
        c.due("the whole text", Check.setupOf(x), "ring 10;window 1;passes 3;");
        c.says("Promise 51", "Returns the byte;");
        c.due("a space", x.setupByte(4), 32);
        c.due("a digit", x.setupByte(5), 49);
        c.says("Promise 51", "`i`: index, from 0");
        c.due("setupByte(0)", x.setupByte(0), 'r');
        c.due("setupByte(25)", x.setupByte(25), ';');
        c.due("the last byte of the longest text", longest().setupByte(917), ';');
        c.due("the one before it", longest().setupByte(916), '8');
        c.says("Promise 51", "INVALID for a negative i;");
        c.due("setupByte(-1)", x.setupByte(-1), I);
        c.due("setupByte(MIN)", x.setupByte(MIN), I);
        c.says("Promise 51", "NOT_FOUND if the text is not so long.");
        c.due("setupByte(26)", x.setupByte(26), N);
        c.due("setupByte(MAX)", x.setupByte(MAX), N);
        c.due("behind the longest text", longest().setupByte(918), N);
        BaggageHandling shorter = Check.loaded(Check.PLANT);
        Check.put(shorter, "ring 10;");
        shorter.load();
        c.due("behind a text that was longer", shorter.setupByte(26), N);
    }

    private void tapeLength() {
        c.says("Promise 52", "Returns the length of the tape. Returns the length.");
        BaggageHandling x = new BaggageHandling();
        c.due("an empty tape", x.tapeLength(), 0);
        for (int i = 1; i <= 46; i++) {
            x.append(0, 0, 0, 0, 0);
            c.due("after append " + i, x.tapeLength(), Math.min(900, 20 * i));
        }
        x.truncate(1);
        c.due("after truncate(1)", x.tapeLength(), 899);
        x.truncate(900);
        c.due("after a truncate that is refused", x.tapeLength(), 899);
        x.load();
        c.due("after a load", x.tapeLength(), 0);
    }
}
