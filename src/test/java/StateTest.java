/** Promises 19 to 42, 48 and 49: the questions about the ring, the bags, the devices and the counts, and the map. */
public final class StateTest {
    private static final Check CHECK = new Check();
    private static final int I = BaggageHandling.INVALID;
    private static final int N = BaggageHandling.NOT_FOUND;

    public static void main(String[] args) {
        invalidArguments();
        ring();
        statesAndPlaces();
        properLabels();
        sizes();
        ready();
        tracking();
        counts();
        misroutedBySwap();
        misroutedByLabels();
        deliveredBags();
        map();
        CHECK.end();
    }

    private static void invalidArguments() {
        BaggageHandling x = Check.plantAfter(3);
        int[] wrong = {-1, 20, Integer.MIN_VALUE, Integer.MAX_VALUE};
        for (int bad : wrong) {
            CHECK.promise(20);
            CHECK.due("bagAt", x.bagAt(bad), I);
            CHECK.promise(21);
            CHECK.due("recordLabel", x.recordLabel(bad), I);
            CHECK.promise(22);
            CHECK.due("isCleared", x.isCleared(bad), false);
            CHECK.promise(23);
            CHECK.due("passes", x.passes(bad), I);
            CHECK.promise(24);
            CHECK.due("destination", x.destination(bad), I);
            CHECK.promise(26);
            CHECK.due("bagState", x.bagState(bad), I);
            CHECK.promise(27);
            CHECK.due("bagPlace", x.bagPlace(bad), I);
            CHECK.promise(28);
            CHECK.due("deliveredAt", x.deliveredAt(bad), I);
            CHECK.promise(29);
            CHECK.due("properLabel", x.properLabel(bad), I);
            CHECK.promise(30);
            CHECK.due("waiting", x.waiting(bad), I);
            CHECK.promise(31);
            CHECK.due("chuteSize", x.chuteSize(bad), I);
            CHECK.promise(32);
            CHECK.due("screenSize", x.screenSize(bad), I);
            CHECK.promise(33);
            CHECK.due("screenLevel", x.screenLevel(bad), I);
            CHECK.promise(34);
            CHECK.due("storeSize", x.storeSize(bad), I);
            CHECK.promise(35);
            CHECK.due("stationSize", x.stationSize(bad), I);
            CHECK.promise(36);
            CHECK.due("exitSize", x.exitSize(bad), I);
            CHECK.promise(37);
            CHECK.due("readyAt", x.readyAt(bad), I);
            CHECK.promise(40);
            CHECK.due("count", x.count(bad), I);
            CHECK.promise(41);
            CHECK.due("misrouted", x.misrouted(bad), I);
            CHECK.promise(42);
            CHECK.due("delivered", x.delivered(bad), I);
        }
        firstInvalid(x);
    }

    /** The first number of each kind that there is none of. */
    private static void firstInvalid(BaggageHandling x) {
        CHECK.promise(26);
        CHECK.due("bagState(1)", x.bagState(1), I);
        CHECK.promise(27);
        CHECK.due("bagPlace(1)", x.bagPlace(1), I);
        CHECK.promise(28);
        CHECK.due("deliveredAt(1)", x.deliveredAt(1), I);
        CHECK.promise(29);
        CHECK.due("properLabel(1)", x.properLabel(1), I);
        CHECK.promise(30);
        CHECK.due("waiting(1)", x.waiting(1), I);
        CHECK.promise(31);
        CHECK.due("chuteSize(2)", x.chuteSize(2), I);
        CHECK.promise(32);
        CHECK.due("screenSize(1)", x.screenSize(1), I);
        CHECK.promise(33);
        CHECK.due("screenLevel(1)", x.screenLevel(1), I);
        CHECK.promise(34);
        CHECK.due("storeSize(1)", x.storeSize(1), I);
        CHECK.promise(35);
        CHECK.due("stationSize(1)", x.stationSize(1), I);
        CHECK.promise(40);
        CHECK.due("count(8)", x.count(8), I);
        CHECK.promise(41);
        CHECK.due("misrouted(2)", x.misrouted(2), I);
        CHECK.promise(42);
        CHECK.due("delivered(3)", x.delivered(3), I);
    }

    private static void ring() {
        BaggageHandling x = Check.plantAfter(2);
        CHECK.promise(19);
        CHECK.due("tick()", x.tick(), 2);
        CHECK.promise(20);
        CHECK.due("bagAt(1)", x.bagAt(1), 0);
        CHECK.due("bagAt(0)", x.bagAt(0), N);
        CHECK.promise(21);
        CHECK.due("recordLabel(1)", x.recordLabel(1), 0);
        CHECK.due("recordLabel(2)", x.recordLabel(2), N);
        CHECK.promise(23);
        CHECK.due("passes(1)", x.passes(1), 0);
        CHECK.due("passes(2)", x.passes(2), N);
        CHECK.promise(24);
        CHECK.due("destination(1)", x.destination(1), 0);
        CHECK.due("destination(2)", x.destination(2), N);
        x.run(1);
        CHECK.promise(21);
        CHECK.due("recordLabel(2)", x.recordLabel(2), 7001);
        CHECK.promise(22);
        CHECK.due("isCleared(2)", x.isCleared(2), false);
        CHECK.promise(23);
        CHECK.due("passes(2)", x.passes(2), 1);
        CHECK.promise(24);
        CHECK.due("destination(2)", x.destination(2), 4);
        x.run(4);
        CHECK.promise(22);
        CHECK.due("isCleared(5)", x.isCleared(5), true);
        CHECK.due("isCleared(6)", x.isCleared(6), false);
        x.slip(5);
        CHECK.due("the record alone", x.isCleared(5), true);
        CHECK.due("the bag alone", x.isCleared(4), false);
        CHECK.promise(24);
        CHECK.due("the record alone", x.destination(5), 10);
        CHECK.promise(21);
        CHECK.due("the bag alone", x.recordLabel(4), N);
        CHECK.promise(25);
        CHECK.due("bags()", x.bags(), 1);
        CHECK.promise(21);
        BaggageHandling y = Check.loaded(Check.PLANT);
        y.checkIn(0, 7001, 1, 8001, 1, 0);
        y.run(3);
        CHECK.due("ambiguous", y.recordLabel(2), 1);
    }

    private static void where(BaggageHandling x, int bag, int state, int place) {
        CHECK.promise(26);
        CHECK.due("bagState(" + bag + ") at tick " + x.tick(), x.bagState(bag), state);
        CHECK.promise(27);
        CHECK.due("bagPlace(" + bag + ") at tick " + x.tick(), x.bagPlace(bag), place);
    }

    private static void statesAndPlaces() {
        String setup = "ring 20;inlet 18;inlet 0;scanner 2;screen 16 room 9 switch 1 times 1 1 1 exit 17;"
            + "screen 4 room 9 switch 1 times 2 2 2 exit 5;station 19 room 9 switch 1 time 1 exit 15;"
            + "station 7 room 9 switch 1 time 2 exit 8;store 14 room 9 switch 1 exit 13;store 10 room 9 switch 1 exit 11;"
            + "chute 3 room 9 switch 1;chute 12 room 9 switch 1;flight 7 chute 1 open 13 close 500;";
        BaggageHandling x = Check.loaded(setup);
        x.checkIn(1, 7001, 15, 0, 0, 0);
        x.checkIn(1, 7002, 15, 0, 0, 3);
        x.checkIn(1, 0, 0, 0, 0, 0);
        where(x, 0, 0, 1);
        x.run(1);
        where(x, 0, 1, 0);
        where(x, 1, 0, 1);
        x.run(3);
        where(x, 0, 1, 3);
        x.run(1);
        where(x, 0, 4, 1);
        x.run(1);
        where(x, 1, 4, 1);
        x.run(1);
        where(x, 0, 1, 5);
        where(x, 2, 1, 4);
        x.run(3);
        where(x, 2, 6, 1);
        x.run(2);
        where(x, 2, 8, N);
        where(x, 0, 5, 1);
        x.run(1);
        where(x, 0, 1, 11);
        where(x, 1, 9, N);
        x.run(1);
        where(x, 0, 2, 1);
        CHECK.promise(28);
        CHECK.due("deliveredAt(0)", x.deliveredAt(0), 14);
        CHECK.due("deliveredAt(1)", x.deliveredAt(1), N);
        CHECK.due("deliveredAt(2)", x.deliveredAt(2), N);
        x.run(5);
        x.loadChute(1);
        where(x, 0, 3, 1);
        CHECK.promise(28);
        CHECK.due("deliveredAt(0) of a loaded bag", x.deliveredAt(0), 14);
    }

    private static void properLabels() {
        CHECK.promise(29);
        BaggageHandling x = Check.loaded("ring 10;inlet 0;chute 1 room 1 switch 1;flight 7 chute 0 open 5 close 10;flight 8 chute 0 open 15 close 20;");
        x.checkIn(0, 7001, 0, 8001, 0, 0);
        x.checkIn(0, 9001, 15, 8001, 0, 0);
        x.checkIn(0, 9001, 15, 9002, 15, 0);
        x.checkIn(0, 8001, 15, 7001, 15, 0);
        x.checkIn(0, 0, 15, 0, 15, 0);
        CHECK.due("the first of an early flight", x.properLabel(0), 7001);
        CHECK.due("the second", x.properLabel(1), 8001);
        CHECK.due("none of a flight", x.properLabel(2), N);
        CHECK.due("the first of two", x.properLabel(3), 8001);
        CHECK.due("none", x.properLabel(4), N);
        x.run(9);
        CHECK.due("before the closing tick", x.properLabel(0), 7001);
        x.run(1);
        CHECK.due("after it", x.properLabel(0), 8001);
        x.run(10);
        CHECK.due("after both", x.properLabel(0), N);
        CHECK.due("after both", x.properLabel(3), N);
    }

    private static void sizes() {
        BaggageHandling x = Check.loaded(Check.PLANT);
        for (int i = 0; i < 3; i++) {
            x.checkIn(0, 7001, 15, 0, 0, 1);
        }
        x.checkIn(0, 7001, 0, 0, 0, 0);
        CHECK.promise(30);
        CHECK.due("waiting(0)", x.waiting(0), 4);
        x.run(1);
        CHECK.due("waiting(0)", x.waiting(0), 3);
        CHECK.promise(33);
        CHECK.due("screenLevel(0) of an empty screen", x.screenLevel(0), 0);
        x.run(4);
        CHECK.promise(32);
        CHECK.due("screenSize(0)", x.screenSize(0), 1);
        CHECK.promise(33);
        CHECK.due("screenLevel(0)", x.screenLevel(0), 1);
        x.run(2);
        CHECK.promise(32);
        CHECK.due("screenSize(0)", x.screenSize(0), 2);
        CHECK.promise(33);
        CHECK.due("screenLevel(0)", x.screenLevel(0), 2);
        x.run(4);
        CHECK.promise(35);
        CHECK.due("stationSize(0)", x.stationSize(0), 1);
        x.run(3);
        CHECK.due("stationSize(0)", x.stationSize(0), 0);
        CHECK.promise(31);
        CHECK.due("chuteSize(0)", x.chuteSize(0), 0);
        x.run(4);
        CHECK.due("chuteSize(0)", x.chuteSize(0), 1);
        CHECK.due("chuteSize(1)", x.chuteSize(1), 0);
        CHECK.promise(34);
        CHECK.due("storeSize(0)", x.storeSize(0), 0);
        CHECK.promise(36);
        CHECK.due("exitSize(4)", x.exitSize(4), I);
        CHECK.due("exitSize(0)", x.exitSize(0), I);
        CHECK.due("exitSize(1)", x.exitSize(1), I);
        CHECK.due("exitSize(5)", x.exitSize(5), 0);
        storesAndExits();
    }

    private static void storesAndExits() {
        BaggageHandling x = Check.loaded("ring 10;inlet 7;scanner 8;screen 9 room 9 switch 1 times 1 1 1 exit 0;"
            + "store 1 room 9 switch 1 exit 4;chute 6 room 1 switch 1;flight 7 chute 0 open 11 close 99;");
        for (int i = 0; i < 3; i++) {
            x.checkIn(0, 7001 + i, 15, 0, 0, 0);
        }
        for (int i = 0; i < 6; i++) {
            x.checkIn(0, 0, 0, 0, 0, 0);
        }
        x.run(7);
        CHECK.promise(34);
        CHECK.due("storeSize(0)", x.storeSize(0), 3);
        x.run(6);
        CHECK.promise(36);
        CHECK.due("exitSize(4) behind a row of bags", x.exitSize(4), 3);
        CHECK.promise(26);
        CHECK.due("bagState(1)", x.bagState(1), 7);
        CHECK.promise(27);
        CHECK.due("bagPlace(1)", x.bagPlace(1), 4);
        CHECK.promise(34);
        CHECK.due("storeSize(0)", x.storeSize(0), 0);
        x.run(4);
        CHECK.promise(36);
        CHECK.due("the first one has entered", x.exitSize(4), 2);
        CHECK.due("bagAt(4)", x.bagAt(4), 0);
    }

    private static void ready() {
        CHECK.promise(37);
        BaggageHandling x = Check.plantAfter(0);
        int[] want = {I, I, I, I, 0, I, I, 0, I, I, 0, I, I, 0, I, 0, I, I, I, I};
        for (int p = 0; p < 20; p++) {
            CHECK.due("readyAt(" + p + ")", x.readyAt(p), want[p]);
        }
        x.run(15);
        CHECK.due("readyAt(4)", x.readyAt(4), 7);
        CHECK.due("readyAt(13)", x.readyAt(13), 18);
        CHECK.due("readyAt(15)", x.readyAt(15), 0);
        x.run(100);
        CHECK.due("readyAt(13) later", x.readyAt(13), 18);
    }

    private static void tracking() {
        BaggageHandling x = Check.loaded("ring 12;inlet 0;");
        for (int i = 0; i < 5; i++) {
            x.checkIn(0, 1000, 15, 0, 0, 0);
        }
        x.run(3);
        CHECK.promise(38);
        CHECK.due("onRing()", x.onRing(), 3);
        CHECK.promise(39);
        CHECK.due("untracked()", x.untracked(), 0);
        x.slip(0);
        CHECK.promise(38);
        CHECK.due("onRing()", x.onRing(), 3);
        CHECK.promise(39);
        CHECK.due("untracked()", x.untracked(), 1);
        x.takeOff(2);
        CHECK.promise(38);
        CHECK.due("onRing()", x.onRing(), 2);
        CHECK.promise(39);
        CHECK.due("a lone record is no bag", x.untracked(), 1);
    }

    /** Checks one count and that the others are 0. */
    private static void onlyCount(BaggageHandling x, int what, int want) {
        for (int i = 0; i <= 7; i++) {
            CHECK.due("count(" + i + ") where only " + what + " is counted", x.count(i), i == what ? want : 0);
        }
    }

    private static void counts() {
        CHECK.promise(40);
        onlyCount(Check.plantAfter(0), 0, 0);
        BaggageHandling x = Check.loaded("ring 12;inlet 0;scanner 2;scanner 4;window 0;");
        x.checkIn(0, 7001, 1, 8001, 2, 0);
        x.run(2);
        x.slip(1);
        x.run(1);
        onlyCount(x, 1, 1);
        x.undo();
        x.undo();
        x.setHead(1, false);
        x.run(1);
        x.setHead(1, true);
        x.setHead(0, false);
        x.run(2);
        onlyCount(x, 2, 1);
        x.slip(4);
        x.slip(3);
        x.run(1);
        onlyCount(x, 2, 1);
        x.run(10);
        CHECK.due("ghosts", x.count(1), 1);
        CHECK.due("losses", x.count(0), 1);

        BaggageHandling full = Check.plantAfter(0);
        full.checkIn(0, 7001, 15, 0, 0, 0);
        full.run(6);
        onlyCount(full, 3, 1);
        BaggageHandling empty = Check.plantAfter(4);
        empty.takeOff(3);
        onlyCount(empty, 5, 1);
        empty.run(1);
        CHECK.due("empty divertings", empty.count(4), 1);
        BaggageHandling aside = Check.loaded(Check.PLANT);
        aside.checkIn(0, 0, 0, 0, 0, 0);
        aside.run(11);
        onlyCount(aside, 5, 1);
        BaggageHandling seized = Check.loaded(Check.PLANT);
        seized.checkIn(0, 7001, 15, 0, 0, 3);
        seized.run(14);
        onlyCount(seized, 6, 1);
        BaggageHandling come = Check.plantAfter(15);
        onlyCount(come, 7, 1);
        come.loadChute(0);
        onlyCount(come, 7, 1);
    }

    private static void misroutedBySwap() {
        CHECK.promise(41);
        BaggageHandling x = Check.loaded("ring 20;inlet 0;scanner 2;screen 4 room 2 switch 1 times 1 1 1 exit 5;"
            + "chute 8 room 5 switch 1;chute 10 room 5 switch 1;flight 7 chute 0 open 0 close 90;flight 8 chute 1 open 0 close 90;");
        x.checkIn(0, 7001, 15, 0, 0, 0);
        x.checkIn(0, 8001, 15, 0, 0, 0);
        x.run(7);
        CHECK.due("bag 1 is behind bag 0", x.bagPlace(1) * 10 + x.bagPlace(0), 56);
        x.takeOff(5);
        x.slip(6);
        CHECK.due("bag 0 has the record of bag 1", Check.mapOf(x), ".....do.............\n");
        CHECK.due("recordLabel(5)", x.recordLabel(5), 8001);
        x.run(5);
        CHECK.due("it comes into chute 1", x.bagPlace(0), 1);
        CHECK.due("misrouted(1)", x.misrouted(1), 1);
        CHECK.due("misrouted(0)", x.misrouted(0), 0);
        CHECK.due("an empty diverting", x.count(4), 1);
        x.loadChute(1);
        CHECK.due("misrouted(1) when it is loaded", x.misrouted(1), 1);
        CHECK.promise(42);
        CHECK.due("delivered(0)", x.delivered(0), 0);
        CHECK.due("delivered(1)", x.delivered(1), 0);
    }

    private static void misroutedByLabels() {
        CHECK.promise(41);
        String setup = "ring 20;inlet 0;scanner 2;screen 4 room 2 switch 1 times 1 1 1 exit 5;"
            + "chute 8 room 5 switch 1;chute 10 room 5 switch 1;flight 7 chute 0 open 0 close 90;flight 8 chute 1 open 0 close 90;";
        BaggageHandling x = Check.loaded(setup);
        x.checkIn(0, 7001, 15, 8001, 0, 0);
        x.checkIn(0, 8001, 0, 7001, 15, 0);
        x.run(20);
        CHECK.due("both are in chute 0", x.chuteSize(0), 2);
        CHECK.due("one of the labels is enough", x.misrouted(0), 0);
        CHECK.promise(42);
        CHECK.due("the first one was delivered for its proper label", x.delivered(0), 1);
        CHECK.due("the second one came into the chute of another flight", x.delivered(1), 0);
    }

    private static void deliveredBags() {
        CHECK.promise(42);
        String setup = "ring 20;inlet 0;scanner 2;screen 4 room 2 switch 1 times 1 1 1 exit 5;"
            + "chute 8 room 5 switch 1;flight 7 chute 0 open 0 close 90;flight 8 chute 0 open 0 close 8;";
        BaggageHandling x = Check.loaded(setup);
        x.checkIn(0, 8001, 0, 7001, 15, 0);
        x.checkIn(0, 7001, 15, 0, 0, 0);
        x.run(9);
        CHECK.due("the first bag came in tick 9", x.deliveredAt(0), 9);
        CHECK.due("flight 8 had closed, so it counts for flight 7", x.delivered(0), 1);
        CHECK.due("delivered(1)", x.delivered(1), 0);
        x.run(1);
        CHECK.due("delivered(0)", x.delivered(0), 2);
        x.loadChute(0);
        x.run(200);
        CHECK.due("loaded, and after the closing tick", x.delivered(0), 2);
        BaggageHandling y = Check.loaded(setup.replace("close 8;", "close 10;"));
        y.checkIn(0, 8001, 0, 7001, 15, 0);
        y.run(9);
        CHECK.due("another flight with the same chute", y.delivered(1), 1);
        CHECK.due("delivered(0)", y.delivered(0), 0);
        y.undo();
        CHECK.due("undone", y.delivered(1), 0);
    }

    private static void map() {
        CHECK.promise(48);
        BaggageHandling x = Check.loaded("ring 14;inlet 0;scanner 2;screen 4 room 2 switch 1 times 1 1 1 exit 5;");
        CHECK.due("mapLength()", x.mapLength(), 15);
        CHECK.promise(49);
        CHECK.due("mapByte(-1)", x.mapByte(-1), I);
        CHECK.due("mapByte(MIN)", x.mapByte(Integer.MIN_VALUE), I);
        CHECK.due("mapByte(14)", x.mapByte(14), 10);
        CHECK.due("mapByte(15)", x.mapByte(15), N);
        CHECK.due("mapByte(MAX)", x.mapByte(Integer.MAX_VALUE), N);
        x.checkIn(0, 7001, 15, 0, 0, 0);
        x.run(1);
        x.checkIn(0, 0, 0, 0, 0, 0);
        x.checkIn(0, 7001, 15, 8001, 15, 0);
        x.run(2);
        x.checkIn(0, 7002, 15, 0, 0, 0);
        x.run(4);
        CHECK.due("map", Check.mapOf(x), "...cbad.......\n");
        x.slip(3);
        CHECK.due("map", Check.mapOf(x), "..xobad.......\n");
        x.checkIn(0, 7001, 15, 8001, 15, 0);
        x.run(1);
        CHECK.due("the screen took the record", Check.mapOf(x), "a..x.bad......\n");
    }
}
