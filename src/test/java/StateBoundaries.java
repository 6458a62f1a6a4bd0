/** The boundary cases of promises 19 to 42: the questions about the state. */
final class StateBoundaries {
    private static final int I = Scene.I;
    private static final int N = Scene.N;
    private static final int MIN = Integer.MIN_VALUE;
    private static final int MAX = Integer.MAX_VALUE;
    private static final int[] NO_POSITIONS = {MIN, -1, 20, 21, 60, MAX};
    private final Check c;

    private StateBoundaries(Check check) {
        c = check;
    }

    static void all(Check check) {
        StateBoundaries b = new StateBoundaries(check);
        b.ticks();
        b.bagsAt();
        b.recordLabels();
        b.clearedMarks();
        b.passes();
        b.destinations();
        b.numberOfBags();
        b.bagStates();
        b.bagPlaces();
        b.deliveredTicks();
        b.properLabels();
        b.waiting();
        b.chuteSizes();
        b.screenSizes();
        b.screenLevels();
        b.storeSizes();
        b.stationSizes();
        b.exitSizes();
        b.readyTicks();
        b.onRing();
        b.untracked();
        b.counts();
        b.eachCount();
        b.misrouted();
        b.delivered();
    }

    /** A ring of 20 positions with a bag and its record at the first and at the last one. */
    private static BaggageHandling atBothEnds() {
        BaggageHandling x = Check.loaded("ring 20;inlet 0;inlet 19;");
        x.checkIn(0, 7001, 15, 0, 0, 0);
        x.checkIn(1, 7001, 15, 0, 0, 0);
        x.run(1);
        return x;
    }

    // ---- promises 19 to 25

    private void ticks() {
        c.says("Promise 19", "Returns the present tick. Returns the tick.");
        BaggageHandling x = new BaggageHandling();
        c.due("of a new object", x.tick(), 0);
        x.run(1);
        c.due("after run(1)", x.tick(), 1);
        x.run(0);
        c.due("after a run that is refused", x.tick(), 1);
        x.undo();
        c.due("after undo", x.tick(), 0);
        Scene.runTo(x, 100000);
        c.due("the last tick", x.tick(), 100000);
        x.forecastDelivered(300);
        c.due("after a forecast", x.tick(), 100000);
    }

    private void bagsAt() {
        c.says("Promise 20", "Returns the bag at a position.");
        BaggageHandling x = atBothEnds();
        c.due("the first position", x.bagAt(0), 0);
        c.due("the last position", x.bagAt(19), 1);
        c.says("Promise 20", "`position`: a position");
        x.run(1);
        c.due("moved on", x.bagAt(1), 0);
        c.due("moved over the end", x.bagAt(0), 1);
        c.says("Promise 20", "Returns the bag; NOT_FOUND if there is none;");
        c.due("none", x.bagAt(19), N);
        x.takeOff(0);
        c.due("a record alone", x.bagAt(0), N);
        x.slip(1);
        c.due("a bag that slipped to it", x.bagAt(0), 0);
        c.due("the record that it left", x.bagAt(1), N);
        c.says("Promise 20", "INVALID for an invalid argument.");
        for (int bad : NO_POSITIONS) {
            c.due("bagAt(" + bad + ")", x.bagAt(bad), I);
        }
    }

    private void recordLabels() {
        c.says("Promise 21", "Returns the label of the record at a position.");
        BaggageHandling x = Check.loaded("ring 20;inlet 18;scanner 19;");
        x.checkIn(0, 999999, 15, 0, 0, 0);
        x.checkIn(0, 1000, 15, 0, 0, 0);
        x.checkIn(0, 7001, 15, 8001, 15, 0);
        x.checkIn(0, 0, 0, 0, 0, 0);
        x.checkIn(0, 0, 0, 0, 0, 0);
        x.run(5);
        c.due("the greatest label", x.recordLabel(2), 999999);
        c.due("the least label", x.recordLabel(1), 1000);
        c.says("Promise 21", "`position`: a position");
        c.due("the first position", x.recordLabel(0), 1);
        c.due("the last position", x.recordLabel(19), 0);
        c.says("Promise 21", "Returns 0 if it is unread, 1 if it is ambiguous, or the label number;");
        c.due("unread, without a pass", x.recordLabel(18), 0);
        c.due("unread, with a pass", x.recordLabel(19), 0);
        c.due("ambiguous", x.recordLabel(0), 1);
        c.due("a label number", x.recordLabel(1), 1000);
        x.takeOff(1);
        c.due("a record alone", x.recordLabel(1), 1000);
        c.says("Promise 21", "NOT_FOUND if there is no record;");
        c.due("nothing", x.recordLabel(10), N);
        x.slip(18);
        c.due("a bag alone", x.recordLabel(17), N);
        c.says("Promise 21", "INVALID for an invalid argument.");
        for (int bad : NO_POSITIONS) {
            c.due("recordLabel(" + bad + ")", x.recordLabel(bad), I);
        }
    }

    /** A bag with a cleared record is at position 19, then it comes to position 0; another one is not cleared. */
    private static BaggageHandling cleared() {
        BaggageHandling x = Scene.withBags("ring 20;inlet 15;scanner 16;screen 17 room 1 switch 9 times 1 1 1 exit 18;", 2, 7001);
        x.run(5);
        return x;
    }

    private void clearedMarks() {
        c.says("Promise 22", "Tells whether the record at a position is marked as cleared.");
        BaggageHandling x = cleared();
        c.due("map", Scene.map(x), "..................cd");
        c.due("a cleared one", x.isCleared(19), true);
        c.due("another one", x.isCleared(18), false);
        c.says("Promise 22", "`position`: a position");
        c.due("the last position", x.isCleared(19), true);
        x.run(1);
        c.due("the first position", x.isCleared(0), true);
        c.says("Promise 22", "Returns true if it is;");
        x.slip(0);
        x.slip(19);
        c.due("a record alone", x.isCleared(0), true);
        c.says("Promise 22", "false otherwise, also without a record and for an invalid argument.");
        c.due("one that is not cleared, with a bag", x.isCleared(19), false);
        x.takeOff(19);
        c.due("one that is not cleared, alone", x.isCleared(19), false);
        c.due("no record", x.isCleared(5), false);
        x.slip(0);
        c.due("where a cleared one was before", x.isCleared(1), false);
        for (int bad : NO_POSITIONS) {
            c.due("isCleared(" + bad + ")", x.isCleared(bad), false);
        }
        BaggageHandling y = cleared();
        y.slip(18);
        c.due("a bag alone behind a cleared one", y.isCleared(17), false);
        BaggageHandling z = Check.plantAfter(15);
        c.due("where a cleared one left the ring", z.isCleared(13), false);
    }

    private void passes() {
        c.says("Promise 23", "`position`: a position");
        BaggageHandling x = Scene.withBags("ring 20;inlet 18;scanner 19;", 2, 7001);
        x.run(2);
        c.due("the last position", x.passes(19), 1);
        c.says("Promise 23", "Returns the number;");
        c.due("none", x.passes(18), 0);
        x.run(1);
        c.says("Promise 23", "Returns the passes of the record at a position.");
        c.due("the first position", x.passes(0), 1);
        x.run(200);
        c.due("eleven", x.passes(0), 11);
        x.takeOff(0);
        c.due("a record alone", x.passes(0), 11);
        c.says("Promise 23", "NOT_FOUND if there is no record;");
        c.due("nothing", x.passes(10), N);
        x.slip(19);
        c.due("a bag alone", x.passes(18), N);
        c.says("Promise 23", "INVALID for an invalid argument.");
        for (int bad : NO_POSITIONS) {
            c.due("passes(" + bad + ")", x.passes(bad), I);
        }
    }

    private void destinations() {
        c.says("Promise 24", "Returns the destination of the record at a position at the present tick.");
        BaggageHandling x = Scene.withBags("ring 20;inlet 15;scanner 16;screen 17 room 1 switch 1 times 1 1 1 exit 18;chute 10 room 1 switch 1;"
            + "chute 11 room 1 switch 1;flight 7 chute 1 open 6 close 8;", 1, 7001);
        x.run(5);
        c.due("early at tick 5", x.destination(19), 5);
        x.run(1);
        c.due("open at tick 6", x.destination(0), 11);
        x.undo();
        c.due("early again", x.destination(19), 5);
        x.run(2);
        c.due("open at tick 7", x.destination(1), 11);
        x.run(1);
        c.due("closed at tick 8", x.destination(2), 6);
        c.says("Promise 24", "`position`: a position");
        BaggageHandling ends = atBothEnds();
        c.due("the first position", ends.destination(0), 0);
        c.due("the last position", ends.destination(19), 0);
        c.says("Promise 24", "Returns 0 none, 4 a screen, 5 a store, 6 a station, 10 + the number of the chute;");
        BaggageHandling y = Check.plantAfter(2);
        c.due("none", y.destination(1), 0);
        y.run(1);
        c.due("a screen", y.destination(2), 4);
        y.run(4);
        c.due("chute 0", y.destination(5), 10);
        BaggageHandling z = Check.loaded(Check.PLANT);
        z.checkIn(0, 8001, 15, 0, 0, 0);
        z.checkIn(0, 0, 0, 0, 0, 0);
        z.run(4);
        c.due("a station", z.destination(2), 6);
        z.run(4);
        c.due("a store", z.destination(5), 5);
        z.takeOff(5);
        c.due("a record alone", z.destination(5), 5);
        c.says("Promise 24", "NOT_FOUND if there is no record;");
        c.due("nothing", z.destination(0), N);
        ends.slip(19);
        c.due("a bag alone", ends.destination(18), N);
        c.says("Promise 24", "INVALID for an invalid argument.");
        for (int bad : NO_POSITIONS) {
            c.due("destination(" + bad + ")", ends.destination(bad), I);
        }
    }

    private void numberOfBags() {
        c.says("Promise 25", "Returns the number of bags that have been checked in. Returns the number.");
        BaggageHandling x = Check.loaded("ring 20;inlet 0;");
        c.due("none", x.bags(), 0);
        Scene.bags(x, 1, 7001);
        c.due("one", x.bags(), 1);
        x.run(1);
        x.takeOff(0);
        c.due("one that is set aside", x.bags(), 1);
        x.checkIn(1, 7001, 15, 0, 0, 0);
        c.due("after a checkIn that is refused", x.bags(), 1);
        Scene.bags(x, 100, 7001);
        c.due("at most 100", x.bags(), 100);
        x.undo();
        c.due("after undo", x.bags(), 99);
        c.due("those in all states", Scene.busy().bags(), 14);
    }

    // ---- promises 26 to 29

    private void bagStates() {
        c.says("Promise 26", "Returns where a bag is.");
        int[] states = {3, 7, 5, 8, 9, 2, 1, 4, 6, 4, 8, 1, 0, 0};
        BaggageHandling x = Scene.busy();
        for (int bag = 0; bag < 14; bag++) {
            c.due("bagState(" + bag + ")", x.bagState(bag), states[bag]);
        }
        c.says("Promise 26", "Returns 0 waiting at an inlet, 1 on the ring, 2 in a chute, 3 loaded, 4 in the queue of a screen, 5 in a store,"
            + " 6 in the queue of a station, 7 waiting at an exit, 8 set aside, 9 seized;");
        // The states that a bag of the plant goes through, from its checkIn to the aircraft.
        int[] way = {0, 1, 1, 1, 1, 4, 4, 1, 1, 1, 1, 1, 1, 1, 1, 2};
        BaggageHandling y = Check.plantAfter(0);
        for (int tick = 0; tick <= 15; tick++) {
            Scene.runTo(y, tick);
            c.due("at tick " + tick, y.bagState(0), way[tick]);
        }
        y.run(1);
        c.due("in the chute", y.bagState(0), 2);
        y.loadChute(0);
        c.due("loaded", y.bagState(0), 3);
        y.undo();
        c.due("in the chute again", y.bagState(0), 2);
        c.says("Promise 26", "`bag`: a bag");
        c.due("the first one", x.bagState(0), 3);
        c.due("the last one", x.bagState(13), 0);
        c.says("Promise 26", "INVALID for an invalid argument.");
        for (int bad : new int[] {MIN, -1, 14, 100, MAX}) {
            c.due("bagState(" + bad + ")", x.bagState(bad), I);
        }
        c.due("bagState(0) without bags", new BaggageHandling().bagState(0), I);
    }

    /** Bags at the second device of each sort, in the order 4 screen, 6 station, 5 store, 2 chute. */
    private static BaggageHandling seconds() {
        return Check.loaded("ring 30;inlet 25;inlet 0;scanner 1;screen 20 room 5 switch 1 times 1 1 1 exit 21;"
            + "screen 3 room 5 switch 1 times 2 2 2 exit 4;station 22 room 5 switch 1 time 1 exit 23;station 5 room 5 switch 1 time 2 exit 6;"
            + "store 26 room 5 switch 1 exit 27;store 7 room 5 switch 1 exit 8;chute 28 room 5 switch 1;chute 10 room 5 switch 1;"
            + "flight 7 chute 1 open 15 close 99;");
    }

    private void place(BaggageHandling x, int tick, int state, int place) {
        Scene.runTo(x, tick);
        c.due("bagState at tick " + tick, x.bagState(0), state);
        c.due("bagPlace at tick " + tick, x.bagPlace(0), place);
    }

    private void bagPlaces() {
        BaggageHandling x = seconds();
        x.checkIn(1, 7001, 15, 0, 0, 0);
        c.says("Promise 27", "the number of its inlet, chute (also if it is loaded), screen, store or station;");
        place(x, 0, 0, 1);
        place(x, 4, 4, 1);
        place(x, 9, 5, 1);
        place(x, 17, 2, 1);
        x.loadChute(1);
        place(x, 18, 3, 1);
        BaggageHandling unread = seconds();
        unread.checkIn(1, 7001, 0, 0, 0, 0);
        place(unread, 6, 6, 1);
        c.says("Promise 27", "Returns the position or device of a bag.");
        place(unread, 8, 1, 6);
        c.says("Promise 27", "Returns its position on the ring;");
        BaggageHandling ring = Scene.withBags("ring 60;inlet 58;", 1, 7001);
        place(ring, 1, 1, 58);
        place(ring, 2, 1, 59);
        place(ring, 3, 1, 0);
        place(ring, 61, 1, 58);
        ring.slip(58);
        c.due("after a slip", ring.bagPlace(0), 57);
        c.says("Promise 27", "for a bag that waits at an exit the position of the exit;");
        c.due("waiting at the exit at 17", Scene.busy().bagPlace(1), 17);
        c.says("Promise 27", "NOT_FOUND if it is set aside or seized;");
        c.due("set aside by a station", Scene.busy().bagPlace(3), N);
        c.due("set aside by hand", Scene.busy().bagPlace(10), N);
        c.due("seized", Scene.busy().bagPlace(4), N);
        c.says("Promise 27", "`bag`: a bag");
        c.due("the first one", Scene.busy().bagPlace(0), 0);
        c.due("the last one", Scene.busy().bagPlace(13), 1);
        c.says("Promise 27", "INVALID for an invalid argument.");
        for (int bad : new int[] {MIN, -1, 14, 100, MAX}) {
            c.due("bagPlace(" + bad + ")", Scene.busy().bagPlace(bad), I);
        }
    }

    private void deliveredTicks() {
        c.says("Promise 28", "Returns the tick in which a bag came into a chute.");
        BaggageHandling x = Check.plantAfter(14);
        c.due("not yet", x.deliveredAt(0), N);
        x.run(1);
        c.due("in this tick", x.deliveredAt(0), 15);
        c.says("Promise 28", "Returns the tick;");
        x.run(100);
        c.due("later", x.deliveredAt(0), 15);
        x.loadChute(0);
        c.due("loaded", x.deliveredAt(0), 15);
        c.says("Promise 28", "NOT_FOUND if it is neither in a chute nor loaded;");
        x.undo();
        x.undo();
        x.undo();
        c.due("undone", x.deliveredAt(0), N);
        int[] none = {1, 2, 3, 4, 6, 7, 8, 9, 10, 11, 12, 13};
        for (int bag : none) {
            c.due("deliveredAt(" + bag + ") in the state " + Scene.busy().bagState(bag), Scene.busy().deliveredAt(bag), N);
        }
        c.says("Promise 28", "`bag`: a bag");
        c.due("the first one", Scene.busy().deliveredAt(0), 20);
        c.due("another one", Scene.busy().deliveredAt(5), 40);
        c.says("Promise 28", "INVALID for an invalid argument.");
        for (int bad : new int[] {MIN, -1, 14, 100, MAX}) {
            c.due("deliveredAt(" + bad + ")", Scene.busy().deliveredAt(bad), I);
        }
    }

    private void properLabels() {
        c.says("Promise 29", "Returns the proper label of a bag at the present tick.");
        BaggageHandling x = Check.loaded("ring 10;inlet 0;chute 5 room 1 switch 1;flight 1 chute 0 open 3 close 5;"
            + "flight 999 chute 0 open 3 close 7;");
        x.checkIn(0, 1000, 0, 999999, 0, 0);
        x.checkIn(0, 0, 0, 0, 0, 0);
        x.run(4);
        c.due("at tick 4", x.properLabel(0), 1000);
        x.run(1);
        c.due("at tick 5", x.properLabel(0), 999999);
        c.says("Promise 29", "Returns the label;");
        x.run(1);
        c.due("at tick 6", x.properLabel(0), 999999);
        c.says("Promise 29", "NOT_FOUND if there is none;");
        x.run(1);
        c.due("at tick 7", x.properLabel(0), N);
        c.due("without labels", x.properLabel(1), N);
        x.undo();
        c.due("at tick 6 again", x.properLabel(0), 999999);
        c.says("Promise 29", "`bag`: a bag");
        c.due("set aside", Scene.busy().properLabel(10), 7006);
        c.due("seized", Scene.busy().properLabel(4), 7002);
        c.due("loaded", Scene.busy().properLabel(0), 7001);
        c.due("the last one", Scene.busy().properLabel(13), 7008);
        c.says("Promise 29", "INVALID for an invalid argument.");
        for (int bad : new int[] {MIN, -1, 2, 100, MAX}) {
            c.due("properLabel(" + bad + ")", x.properLabel(bad), I);
        }
    }

    // ---- promises 30 to 37

    private void waiting() {
        c.says("Promise 30", "Returns the number of bags that wait at an inlet.");
        BaggageHandling x = Check.loaded("ring 20;inlet 0;inlet 5;inlet 10;");
        c.due("none", x.waiting(0), 0);
        for (int i = 0; i < 97; i++) {
            x.checkIn(2, 7001, 15, 0, 0, 0);
        }
        Scene.bags(x, 3, 7001);
        c.due("three", x.waiting(0), 3);
        c.due("none at the second one", x.waiting(1), 0);
        c.says("Promise 30", "`inlet`: an inlet");
        c.due("the last inlet", x.waiting(2), 97);
        c.says("Promise 30", "Returns the number;");
        x.run(1);
        c.due("one less", x.waiting(2), 96);
        x.run(3);
        c.due("none", x.waiting(0), 0);
        c.says("Promise 30", "INVALID for an invalid argument.");
        for (int bad : new int[] {MIN, -1, 3, 5, MAX}) {
            c.due("waiting(" + bad + ")", x.waiting(bad), I);
        }
    }

    /** A ring of 40 positions with two outlets of a sort, at 5 and 6; bags come to them in the ticks 6, 7 and so on. */
    private static BaggageHandling outlets(String first, String second, int bags, int label) {
        return Scene.withBags("ring 40;inlet 0;scanner 1;screen 2 room 20 switch 1 times 1 1 1 exit 3;" + first + second
            + "flight 7 chute 1 open 0 close 99;flight 8 chute 0 open 98 close 99;", bags, label);
    }

    private void chuteSizes() {
        c.says("Promise 31", "Returns the number of bags in a chute.");
        BaggageHandling x = outlets("chute 5 room 20 switch 1;", "chute 6 room 20 switch 1;", 21, 7001);
        c.due("none", x.chuteSize(1), 0);
        x.run(7);
        c.due("one", x.chuteSize(1), 1);
        c.says("Promise 31", "Returns the number;");
        x.run(30);
        c.due("as many as it has room for", x.chuteSize(1), 20);
        x.loadChute(1);
        c.due("loaded", x.chuteSize(1), 0);
        c.says("Promise 31", "`chute`: a chute");
        c.due("the first chute", x.chuteSize(0), 0);
        c.says("Promise 31", "INVALID for an invalid argument.");
        for (int bad : new int[] {MIN, -1, 2, 5, MAX}) {
            c.due("chuteSize(" + bad + ")", x.chuteSize(bad), I);
        }
        c.due("chuteSize(0) without chutes", new BaggageHandling().chuteSize(0), I);
    }

    private static BaggageHandling screens() {
        return Scene.withBags("ring 40;inlet 0;scanner 1;screen 5 room 20 switch 1 times 9 9 9 exit 3;screen 6 room 1 switch 1 times"
            + " 5 9 9 exit 30;", 22, 7001);
    }

    private void screenSizes() {
        c.says("Promise 32", "Returns the number of bags in the queue of a screen.");
        BaggageHandling x = screens();
        c.due("none", x.screenSize(0), 0);
        x.run(6);
        c.due("one", x.screenSize(0), 1);
        x.run(8);
        c.due("nine", x.screenSize(0), 9);
        x.run(1);
        c.due("one has left, one has come", x.screenSize(0), 9);
        BaggageHandling full = Scene.withBags("ring 40;inlet 0;scanner 1;screen 5 room 20 switch 1 times 99 9 9 exit 3;"
            + "screen 6 room 1 switch 1 times 99 9 9 exit 30;", 22, 7001);
        c.says("Promise 32", "Returns the number;");
        full.run(28);
        c.due("as many as it has room for", full.screenSize(0), 20);
        c.says("Promise 32", "`screen`: a screen");
        c.due("the last screen", full.screenSize(1), 1);
        c.says("Promise 32", "INVALID for an invalid argument.");
        for (int bad : new int[] {MIN, -1, 2, 5, MAX}) {
            c.due("screenSize(" + bad + ")", x.screenSize(bad), I);
        }
        c.due("screenSize(0) without screens", new BaggageHandling().screenSize(0), I);
    }

    private void screenLevels() {
        BaggageHandling x = Check.loaded("ring 40;inlet 0;scanner 1;screen 5 room 1 switch 1 times 2 2 2 exit 3;"
            + "screen 6 room 1 switch 1 times 1 1 1 exit 30;");
        x.checkIn(0, 7001, 15, 0, 0, 3);
        x.checkIn(0, 7001, 15, 0, 0, 3);
        c.says("Promise 33", "Returns 1 to 3;");
        int[][] levels = {{0, 0}, {1, 0}, {1, 0}, {2, 1}, {2, 2}, {3, 3}, {3, 0}, {0, 0}};
        for (int i = 0; i < levels.length; i++) {
            Scene.runTo(x, 5 + i);
            c.due("screenLevel(0) at tick " + (5 + i), x.screenLevel(0), levels[i][0]);
            c.due("screenLevel(1) at tick " + (5 + i), x.screenLevel(1), levels[i][1]);
        }
        c.says("Promise 33", "Returns the level at which a screen works.");
        x.undo();
        c.due("level 3 again", x.screenLevel(0), 3);
        c.says("Promise 33", "0 if its queue is empty;");
        c.due("after a bag", x.screenLevel(1), 0);
        c.due("before all bags", screens().screenLevel(1), 0);
        c.says("Promise 33", "`screen`: a screen");
        c.due("the first one", Scene.busy().screenLevel(0), 3);
        c.says("Promise 33", "INVALID for an invalid argument.");
        for (int bad : new int[] {MIN, -1, 2, 5, MAX}) {
            c.due("screenLevel(" + bad + ")", x.screenLevel(bad), I);
        }
        c.due("screenLevel(0) without screens", new BaggageHandling().screenLevel(0), I);
    }

    private void storeSizes() {
        c.says("Promise 34", "Returns the number of bags in a store.");
        BaggageHandling x = outlets("store 5 room 20 switch 1 exit 35;store 6 room 1 switch 1 exit 36;", "chute 10 room 1 switch 1;"
            + "chute 11 room 1 switch 1;", 22, 8001);
        c.due("none", x.storeSize(0), 0);
        x.run(6);
        c.due("one", x.storeSize(0), 1);
        c.says("Promise 34", "Returns the number;");
        x.run(30);
        c.due("as many as it has room for", x.storeSize(0), 20);
        c.says("Promise 34", "`store`: a store");
        c.due("the last store", x.storeSize(1), 1);
        x.run(61);
        c.due("before the opening tick", x.storeSize(1), 1);
        x.run(1);
        c.due("released", x.storeSize(1), 0);
        c.due("one released", x.storeSize(0), 19);
        c.says("Promise 34", "INVALID for an invalid argument.");
        for (int bad : new int[] {MIN, -1, 2, 5, MAX}) {
            c.due("storeSize(" + bad + ")", x.storeSize(bad), I);
        }
        c.due("storeSize(0) without stores", new BaggageHandling().storeSize(0), I);
    }

    private void stationSizes() {
        c.says("Promise 35", "Returns the number of bags in the queue of a station.");
        BaggageHandling x = Scene.withBags("ring 40;inlet 0;scanner 1;station 5 room 20 switch 1 time 40 exit 3;"
            + "station 6 room 1 switch 1 time 99 exit 30;", 22, 0);
        c.due("none", x.stationSize(0), 0);
        x.run(6);
        c.due("one", x.stationSize(0), 1);
        c.says("Promise 35", "Returns the number;");
        x.run(22);
        c.due("as many as it has room for", x.stationSize(0), 20);
        c.says("Promise 35", "`station`: a station");
        c.due("the last station", x.stationSize(1), 1);
        x.run(18);
        c.due("one is set aside", x.stationSize(0), 19);
        c.says("Promise 35", "INVALID for an invalid argument.");
        for (int bad : new int[] {MIN, -1, 2, 5, MAX}) {
            c.due("stationSize(" + bad + ")", x.stationSize(bad), I);
        }
        c.due("stationSize(0) without stations", new BaggageHandling().stationSize(0), I);
    }

    private void exitSizes() {
        c.says("Promise 36", "Returns the number of bags that wait at the exit at a position.");
        BaggageHandling x = Check.loaded("ring 20;inlet 17;inlet 9;scanner 18;screen 19 room 9 switch 1 times 1 1 1 exit 10;"
            + "store 1 room 1 switch 1 exit 0;"
            + "station 2 room 1 switch 1 time 1 exit 3;chute 4 room 1 switch 1;");
        c.due("none", x.exitSize(10), 0);
        for (int i = 0; i < 3; i++) {
            x.checkIn(0, 7001, 15, 0, 0, 0);
            x.checkIn(1, 0, 0, 0, 0, 0);
            x.checkIn(1, 0, 0, 0, 0, 0);
        }
        x.run(4);
        c.due("one", x.exitSize(10), 1);
        c.says("Promise 36", "Returns the number;");
        x.run(2);
        c.due("three", x.exitSize(10), 3);
        x.run(2);
        c.due("one has entered", x.exitSize(10), 2);
        c.says("Promise 36", "`position`: the position of an exit");
        c.due("of a store, at the first position", x.exitSize(0), 0);
        c.due("of a station", x.exitSize(3), 0);
        c.due("of a screen", x.exitSize(10), 2);
        c.says("Promise 36", "INVALID if there is no exit at the position.");
        for (int p = 0; p < 20; p++) {
            if (p != 0 && p != 3 && p != 10) {
                c.due("exitSize(" + p + ")", x.exitSize(p), I);
            }
        }
        for (int bad : NO_POSITIONS) {
            c.due("exitSize(" + bad + ")", x.exitSize(bad), I);
        }
    }

    private void readyTicks() {
        c.says("Promise 37", "Returns the first tick in which the diverter of an outlet can take again.");
        BaggageHandling x = Scene.withBags("ring 20;inlet 15;scanner 16;screen 0 room 9 switch 9 times 99 99 99 exit 1;"
            + "chute 19 room 9 switch 1;store 2 room 9 switch 1 exit 3;station 4 room 9 switch 1 time 1 exit 5;"
            + "flight 7 chute 0 open 0 close 99;", 11, 7001);
        x.run(6);
        c.due("taken in tick 6", x.readyAt(0), 15);
        x.run(8);
        c.due("it has not taken again", x.readyAt(0), 15);
        x.run(1);
        c.due("taken again in tick 15", x.readyAt(0), 24);
        c.due("two bags", x.screenSize(0), 2);
        c.says("Promise 37", "Returns the tick;");
        BaggageHandling fast = Check.plantAfter(15);
        c.due("switching time 3", fast.readyAt(13), 18);
        fast.run(3);
        c.due("at that tick", fast.readyAt(13), 18);
        fast.run(100);
        c.due("after that tick", fast.readyAt(13), 18);
        fast.undo();
        fast.undo();
        fast.undo();
        c.due("undone", fast.readyAt(13), 0);
        c.says("Promise 37", "`position`: the position of a chute, screen, store or station");
        c.due("a chute", x.readyAt(19), 0);
        c.due("a screen, at the first position", x.readyAt(0), 24);
        c.due("a store", x.readyAt(2), 0);
        c.due("a station", x.readyAt(4), 0);
        c.says("Promise 37", "0 if it has taken nothing yet;");
        BaggageHandling y = Check.loaded(Check.PLANT);
        y.run(300);
        for (int p : new int[] {4, 7, 10, 13, 15}) {
            c.due("readyAt(" + p + ")", y.readyAt(p), 0);
        }
        c.says("Promise 37", "INVALID if there is no such device at the position.");
        for (int p : new int[] {0, 1, 2, 3, 5, 6, 8, 9, 11, 12, 14, 16, 19}) {
            c.due("readyAt(" + p + ")", y.readyAt(p), I);
        }
        for (int bad : NO_POSITIONS) {
            c.due("readyAt(" + bad + ")", y.readyAt(bad), I);
        }
    }

    // ---- promises 38 to 42

    private void onRing() {
        c.says("Promise 38", "Returns the number of bags on the ring. Returns the number.");
        BaggageHandling x = Scene.withBags("ring 10;inlet 0;", 12, 7001);
        c.due("none, twelve are waiting", x.onRing(), 0);
        x.run(1);
        c.due("one", x.onRing(), 1);
        x.run(20);
        c.due("a full ring", x.onRing(), 10);
        x.takeOff(0);
        x.takeOff(9);
        c.due("two are taken off", x.onRing(), 8);
        c.due("a bag slips", x.slip(1), true);
        c.due("with or without records", x.onRing(), 8);
        c.due("none on a new ring", new BaggageHandling().onRing(), 0);
    }

    private void untracked() {
        c.says("Promise 39", "Returns the number of bags on the ring without a record at their position. Returns the number.");
        BaggageHandling x = Scene.withBags("ring 12;inlet 0;", 3, 7001);
        x.run(3);
        c.due("none", x.untracked(), 0);
        x.slip(0);
        c.due("one, over the end of the ring", x.untracked(), 1);
        x.slip(11);
        c.due("one", x.untracked(), 1);
        x.slip(1);
        c.due("one, another bag has the record that it left", x.untracked(), 1);
        x.slip(0);
        c.due("two", x.untracked(), 2);
        x.takeOff(2);
        c.due("a record alone is no bag", x.untracked(), 2);
        c.due("onRing()", x.onRing(), 2);
        BaggageHandling full = Scene.withBags("ring 12;inlet 0;", 6, 7001);
        for (int i = 0; i < 6; i++) {
            full.run(1);
            full.slip(0);
            full.run(1);
        }
        c.due("all six", full.untracked() * 10 + full.onRing(), 66);
    }

    private void counts() {
        c.says("Promise 40", "Returns one of the counts.");
        BaggageHandling x = Scene.busy();
        int[] counts = {0, 1, 0, 0, 0, 2, 1, 2};
        for (int what = 0; what < 8; what++) {
            c.due("count(" + what + ")", x.count(what), counts[what]);
        }
        c.says("Promise 40", "Returns the count since the latest successful load();");
        Check.put(x, "x");
        x.load();
        c.due("after a load with an error", x.count(5), 2);
        Check.put(x, "ring 10;");
        x.load();
        for (int what = 0; what < 8; what++) {
            c.due("count(" + what + ") after a good load", x.count(what), 0);
        }
        c.says("Promise 40", "INVALID for an invalid argument.");
        for (int bad : new int[] {MIN, -1, 8, 9, MAX}) {
            c.due("count(" + bad + ")", x.count(bad), I);
        }
    }

    private void only(BaggageHandling x, int what, int want) {
        for (int i = 0; i < 8; i++) {
            c.due("count(" + i + ") where " + what + " is counted", x.count(i), i == what ? want : 0);
        }
    }

    private void eachCount() {
        c.says("Promise 40", "`what`: 0 losses, 1 ghosts, 2 conflicts, 3 misses, 4 empty divertings, 5 bags set aside, 6 bags seized,"
            + " 7 bags that came into chutes");
        BaggageHandling loss = Scene.withBags("ring 20;inlet 0;scanner 1;window 0;", 1, 7001);
        loss.run(3);
        loss.slip(2);
        loss.slip(1);
        loss.run(1);
        only(loss, 0, 1);
        BaggageHandling ghost = Scene.withBags("ring 20;inlet 0;scanner 3;window 0;", 1, 7001);
        ghost.run(3);
        ghost.slip(2);
        ghost.run(1);
        only(ghost, 1, 1);
        BaggageHandling conflict = Check.loaded("ring 20;inlet 0;scanner 1;scanner 3;");
        conflict.checkIn(0, 7001, 1, 8001, 2, 0);
        conflict.setHead(0, false);
        conflict.run(2);
        conflict.setHead(0, true);
        conflict.setHead(1, false);
        conflict.run(2);
        only(conflict, 2, 1);
        BaggageHandling miss = Scene.withBags("ring 20;inlet 0;scanner 1;screen 3 room 1 switch 1 times 99 99 99 exit 4;", 3, 7001);
        miss.run(6);
        only(miss, 3, 2);
        BaggageHandling empty = Check.loaded("ring 20;inlet 0;scanner 1;screen 3 room 1 switch 1 times 99 99 99 exit 4;window 3;");
        Scene.bag(empty, 7001);
        empty.run(3);
        empty.slip(2);
        empty.run(1);
        only(empty, 4, 1);
        BaggageHandling aside = Scene.withBags("ring 20;inlet 0;", 2, 7001);
        aside.run(2);
        aside.takeOff(0);
        aside.takeOff(1);
        only(aside, 5, 2);
        BaggageHandling station = Scene.withBags("ring 20;inlet 0;scanner 1;station 2 room 1 switch 1 time 1 exit 3;", 1, 0);
        station.run(4);
        only(station, 5, 1);
        BaggageHandling seized = Check.loaded("ring 20;inlet 0;scanner 1;screen 2 room 1 switch 1 times 1 1 1 exit 3;");
        seized.checkIn(0, 7001, 15, 0, 0, 3);
        seized.run(6);
        only(seized, 6, 1);
        BaggageHandling come = Check.plantAfter(15);
        only(come, 7, 1);
        come.loadChute(0);
        only(come, 7, 1);
        come.undo();
        come.undo();
        only(come, 7, 0);
    }

    /** A bag of flight 7, whose chute is 0, comes into chute 1 with the record of another one. */
    private static BaggageHandling strayed() {
        BaggageHandling x = Check.loaded("ring 20;inlet 0;scanner 2;screen 4 room 2 switch 1 times 1 1 1 exit 5;"
            + "chute 8 room 5 switch 1;chute 10 room 5 switch 1;flight 7 chute 0 open 0 close 90;flight 8 chute 1 open 0 close 90;");
        Scene.bag(x, 7001);
        Scene.bag(x, 8001);
        x.run(7);
        x.takeOff(5);
        x.slip(6);
        x.run(5);
        return x;
    }

    private void misrouted() {
        c.says("Promise 41", "Returns the number of misrouted bags that are in a chute or were loaded from it.");
        BaggageHandling x = strayed();
        c.due("in the chute", x.misrouted(1), 1);
        c.due("not in the other one", x.misrouted(0), 0);
        x.loadChute(1);
        c.due("loaded", x.misrouted(1), 1);
        Scene.bag(x, 8002);
        Scene.bag(x, 7002);
        x.run(30);
        c.due("others come that are not misrouted", x.misrouted(1) * 10 + x.misrouted(0), 10);
        c.due("they have come", x.chuteSize(0) * 10 + x.chuteSize(1), 11);
        x.loadChute(1);
        c.due("loaded again", x.misrouted(1), 1);
        c.says("Promise 41", "Returns the number;");
        BaggageHandling y = strayed();
        y.undo();
        c.due("undone", y.misrouted(1), 0);
        BaggageHandling again = strayed();
        Check.put(again, Check.setupOf(again));
        again.load();
        c.due("after a load", again.misrouted(1), 0);
        c.says("Promise 41", "`chute`: a chute");
        c.due("the first chute", x.misrouted(0), 0);
        c.due("the last chute", x.misrouted(1), 1);
        c.says("Promise 41", "INVALID for an invalid argument.");
        for (int bad : new int[] {MIN, -1, 2, 8, MAX}) {
            c.due("misrouted(" + bad + ")", x.misrouted(bad), I);
        }
    }

    private void delivered() {
        c.says("Promise 42", "Returns the number of bags in chutes or loaded whose proper label belonged to a flight when"
            + " they came into the chute of that flight.");
        BaggageHandling x = Check.plantAfter(14);
        c.due("not yet", x.delivered(0), 0);
        x.run(1);
        c.due("in the chute", x.delivered(0), 1);
        x.loadChute(0);
        c.due("loaded", x.delivered(0), 1);
        Scene.runTo(x, 501);
        c.due("when the flight is closed", x.delivered(0), 1);
        c.due("of another flight", x.delivered(1) + x.delivered(2), 0);
        BaggageHandling stray = strayed();
        c.due("in the chute of another flight", stray.delivered(0) + stray.delivered(1), 0);
        // Flight 8 is that of the first label; it closes before, in or after the tick 9, in which the bag comes.
        int[][] flights = {{8, 1, 0}, {9, 1, 0}, {10, 0, 1}};
        for (int[] f : flights) {
            BaggageHandling y = Check.loaded("ring 20;inlet 0;scanner 2;screen 4 room 2 switch 1 times 1 1 1 exit 5;chute 8 room 5 switch 1;"
                + "flight 7 chute 0 open 0 close 90;flight 8 chute 0 open 0 close " + f[0] + ";");
            y.checkIn(0, 8001, 0, 7001, 15, 0);
            y.run(9);
            c.due("deliveredAt(0)", y.deliveredAt(0), 9);
            c.due("flight 7, and 8 closes at " + f[0], y.delivered(0), f[1]);
            c.due("flight 8, which closes at " + f[0], y.delivered(1), f[2]);
            y.undo();
            c.due("undone", y.delivered(0) + y.delivered(1), 0);
        }
        // The proper label is of another flight with another chute: the bag counts for neither.
        BaggageHandling z = Check.loaded("ring 20;inlet 0;scanner 2;screen 4 room 2 switch 1 times 1 1 1 exit 5;chute 8 room 5 switch 1;"
            + "chute 9 room 5 switch 1;flight 7 chute 0 open 0 close 90;flight 8 chute 1 open 50 close 90;");
        z.checkIn(0, 8001, 0, 7001, 15, 0);
        z.run(9);
        c.due("it is in chute 0", z.chuteSize(0), 1);
        c.due("for neither", z.delivered(0) + z.delivered(1), 0);
        c.says("Promise 42", "Returns the number;");
        BaggageHandling two = Scene.withBags(Check.PLANT.replace("switch 2 times 2 3 4", "switch 1 times 1 1 1").replace("room 2 switch"
            + " 3", "room 2 switch 1"), 3, 7001);
        c.due("none", two.delivered(0), 0);
        two.run(15);
        c.due("two", two.delivered(0), 2);
        two.loadChute(0);
        two.run(30);
        c.due("three, two of them loaded", two.delivered(0), 3);
        c.says("Promise 42", "`flight`: index of a flight");
        c.due("the first one", x.delivered(0), 1);
        c.due("the last one", x.delivered(2), 0);
        c.says("Promise 42", "INVALID for an invalid argument.");
        for (int bad : new int[] {MIN, -1, 3, 7, MAX}) {
            c.due("delivered(" + bad + ")", x.delivered(bad), I);
        }
        c.due("delivered(0) without flights", new BaggageHandling().delivered(0), I);
        c.says("Promise 42", "Returns the number of bags in chutes or loaded");
        Check.put(x, Check.PLANT);
        x.load();
        c.due("after a load", x.delivered(0), 0);
    }
}
