/** What a tick does (promise 13 with the sections 3 to 9 of the document), device by device. */
public final class TickTest {
    private static final Check CHECK = new Check();

    public static void main(String[] args) {
        CHECK.promise(13);
        inlets();
        inletsWaitForRecords();
        exitsWait();
        scannerFindsRecords();
        scannerLosesRecords();
        scannerLooksBehindFirst();
        scannerDeletesRecords();
        readings();
        conflicts();
        destinations();
        passLimit();
        switching();
        fullOutlets();
        emptyDivertings();
        stations();
        stationQueues();
        screens();
        screenQueues();
        stores();
        order();
        CHECK.end();
    }

    private static BaggageHandling withBags(String setup, int bags) {
        BaggageHandling x = Check.loaded(setup);
        for (int i = 0; i < bags; i++) {
            x.checkIn(0, 7000 + i, 15, 0, 0, 0);
        }
        return x;
    }

    private static void map(BaggageHandling x, String what, String want) {
        CHECK.due(what, Check.mapOf(x), want + "\n");
    }

    private static void inlets() {
        BaggageHandling x = withBags("ring 10;inlet 8;inlet 9;", 3);
        x.checkIn(1, 7009, 15, 0, 0, 0);
        x.run(1);
        map(x, "both inlets", "........aa");
        CHECK.due("bagAt(9)", x.bagAt(9), 3);
        x.checkIn(1, 7009, 15, 0, 0, 0);
        x.run(1);
        map(x, "the second inlet is blocked", "a.......aa");
        CHECK.due("it waits", x.waiting(1), 1);
        x.run(2);
        map(x, "it is blocked by the third bag, too", "aaa......a");
        CHECK.due("it waits still", x.waiting(1), 1);
        x.run(1);
        map(x, "the second inlet is free", "aaaa.....a");
        CHECK.due("it has entered", x.waiting(1), 0);
    }

    private static void inletsWaitForRecords() {
        BaggageHandling x = withBags("ring 10;inlet 0;", 2);
        x.run(1);
        x.takeOff(0);
        x.checkIn(0, 7000, 15, 0, 0, 0);
        x.run(9);
        map(x, "one has entered, then the other one", ".......aao");
        x.checkIn(0, 7000, 15, 0, 0, 0);
        x.run(1);
        map(x, "a lone record blocks the inlet", "o.......aa");
        x.run(1);
        map(x, "a bag blocks the inlet", "ao.......a");
        CHECK.due("a bag of the second round", x.bagAt(0), 1);
        x.slip(9);
        x.run(1);
        map(x, "another lone record", "oao......x");
        x.run(1);
        map(x, "a lone bag blocks the inlet", "xoao......");
        CHECK.due("it waits", x.waiting(0), 1);
        x.run(1);
        map(x, "the inlet is free", "axoao.....");
    }

    private static void exitsWait() {
        BaggageHandling x = Check.loaded("ring 10;inlet 2;scanner 3;screen 4 room 9 switch 1 times 1 1 1 exit 6;");
        x.checkIn(0, 0, 0, 0, 0, 0);
        x.checkIn(0, 7000, 15, 0, 0, 0);
        x.run(5);
        map(x, "the unread bag is at the exit", "......a...");
        CHECK.due("the other one waits there", x.bagState(1), 7);
        CHECK.due("bagPlace(1)", x.bagPlace(1), 6);
        CHECK.due("exitSize(6)", x.exitSize(6), 1);
        x.run(1);
        map(x, "it enters with its record", "......da..");
        CHECK.due("its label", x.recordLabel(6), 7000);
        CHECK.due("exitSize(6)", x.exitSize(6), 0);
    }

    private static void scannerFindsRecords() {
        String setup = "ring 12;inlet 0;scanner 6;window 3;";
        BaggageHandling x = withBags(setup, 1);
        x.run(6);
        map(x, "before", ".....a......");
        x.slip(5);
        x.run(1);
        map(x, "the record came alone and found its bag behind", ".....a......");
        CHECK.due("passes are not counted then", x.passes(5), 0);
        x.run(1);
        CHECK.due("now the bag is read", x.passes(6), 1);
        CHECK.due("recordLabel(6)", x.recordLabel(6), 7000);
        CHECK.due("no loss, no ghost", x.count(0) + x.count(1), 0);

        BaggageHandling y = withBags(setup, 1);
        y.run(6);
        y.slip(5);
        y.slip(4);
        y.slip(3);
        y.slip(2);
        y.run(1);
        map(y, "the bag is out of the window", "..x.........");
        CHECK.due("a ghost", y.count(1), 1);
        y.run(4);
        map(y, "a new record", "......c.....");
        CHECK.due("a loss", y.count(0), 1);
    }

    private static void scannerLosesRecords() {
        BaggageHandling x = withBags("ring 12;inlet 0;scanner 6;window 0;", 1);
        x.run(6);
        x.slip(5);
        x.run(1);
        map(x, "without a window the record is deleted", ".....x......");
        CHECK.due("a ghost", x.count(1), 1);
        x.run(1);
        map(x, "a new record", "......c.....");
        CHECK.due("a loss", x.count(0), 1);
        CHECK.due("the new record is read at once", x.passes(6), 1);
        CHECK.due("its label", x.recordLabel(6), 7000);

        BaggageHandling y = withBags("ring 12;inlet 0;scanner 6;window 3;", 2);
        y.run(6);
        map(y, "two bags", "....aa......");
        y.takeOff(4);
        y.slip(5);
        map(y, "the bag has the other record, its own is ahead", "....ao......");
        y.slip(4);
        map(y, "two lone records ahead of the bag", "...xoo......");
        y.run(1);
        map(y, "the record ahead found the bag", "....ao......");
        y.run(1);
        map(y, "the second one finds none and goes", ".....a......");
        CHECK.due("a ghost", y.count(1), 1);
    }

    private static void scannerLooksBehindFirst() {
        String setup = "ring 20;inlet 0;scanner 8;window 1;";
        BaggageHandling x = withBags(setup, 1);
        x.run(2);
        x.checkIn(0, 0, 0, 0, 0, 0);
        x.run(7);
        x.slip(8);
        x.takeOff(6);
        map(x, "records on both sides of a bag", "......oxo...........");
        x.run(1);
        map(x, "the record behind is taken", "........co..........");
        CHECK.due("it had no passes", x.passes(8), 1);
        CHECK.due("no loss", x.count(0), 0);

        BaggageHandling y = withBags(setup, 1);
        y.run(2);
        y.checkIn(0, 0, 0, 0, 0, 0);
        y.run(8);
        y.slip(9);
        y.slip(7);
        map(y, "bags on both sides of a record", "......xoxo..........");
        y.run(1);
        map(y, "the bag behind gets it", ".......a.xo.........");
        CHECK.due("no ghost", y.count(1), 0);
    }

    private static void scannerDeletesRecords() {
        BaggageHandling x = withBags("ring 12;inlet 0;scanner 1;window 3;", 1);
        x.run(1);
        x.takeOff(0);
        x.run(1);
        map(x, "the record is deleted", "............");
        CHECK.due("a ghost", x.count(1), 1);
        CHECK.due("no loss", x.count(0), 0);
        // Over the end of the ring: the bag waits at position 11, the record is scanned at position 1.
        BaggageHandling y = withBags("ring 12;inlet 0;scanner 1;window 3;", 1);
        y.run(1);
        y.slip(0);
        y.slip(11);
        y.run(1);
        map(y, "the record came to its bag", "...........a");
    }

    private static int read(BaggageHandling x, int first, int firstHeads, int second, int secondHeads) {
        x.checkIn(0, first, firstHeads, second, secondHeads, 0);
        x.run(2);
        return x.recordLabel(1);
    }

    private static void readings() {
        String setup = "ring 50;inlet 0;scanner 1;chute 3 room 9 switch 1;flight 7 chute 0 open 0 close 1;flight 8 chute 0 open 9 close 99;";
        BaggageHandling x = Check.loaded(setup);
        CHECK.due("no labels", read(x, 0, 15, 0, 15), 0);
        CHECK.due("no head sees them", read(x, 7001, 0, 8001, 0), 0);
        CHECK.due("only the first", read(x, 7001, 1, 0, 15), 7001);
        CHECK.due("only the second", read(x, 0, 15, 8001, 2), 8001);
        CHECK.due("only the second is seen", read(x, 7001, 0, 8001, 2), 8001);
        CHECK.due("two equal ones", read(x, 7001, 1, 7001, 2), 7001);
        CHECK.due("two of flights", read(x, 7001, 1, 8001, 2), 1);
        CHECK.due("two of one flight", read(x, 7001, 1, 7002, 2), 1);
        CHECK.due("none of a flight", read(x, 9001, 1, 9002, 2), 1);
        CHECK.due("the first of a flight, though it is closed", read(x, 7001, 1, 9002, 2), 7001);
        CHECK.due("the second of a flight, though it is early", read(x, 9001, 1, 8002, 2), 8002);
        CHECK.due("one of no flight", read(x, 9001, 1, 0, 0), 9001);
        x.setHead(0, false);
        CHECK.due("the head of the first is out of order", read(x, 7001, 1, 8002, 2), 8002);
        CHECK.due("no head that works", read(x, 7001, 1, 8002, 1), 0);
        CHECK.due("no conflicts", x.count(2), 0);
    }

    private static void conflicts() {
        String setup = "ring 10;inlet 0;scanner 1;scanner 3;scanner 5;";
        BaggageHandling x = Check.loaded(setup);
        x.checkIn(0, 7001, 1, 8001, 2, 0);
        x.setHead(1, false);
        x.run(2);
        CHECK.due("the first label", x.recordLabel(1), 7001);
        x.setHead(1, true);
        x.run(2);
        CHECK.due("an ambiguous reading changes no number", x.recordLabel(3), 7001);
        CHECK.due("passes", x.passes(3), 2);
        CHECK.due("no conflict", x.count(2), 0);
        x.setHead(0, false);
        x.run(2);
        CHECK.due("the other label", x.recordLabel(5), 8001);
        CHECK.due("a conflict", x.count(2), 1);
        x.setHead(1, false);
        x.run(6);
        CHECK.due("nothing seen, the label stays", x.recordLabel(1), 8001);
        CHECK.due("passes", x.passes(1), 4);
        x.setHead(1, true);
        x.run(2);
        CHECK.due("the same label is no conflict", x.count(2), 1);

        BaggageHandling edges = Check.loaded(setup);
        edges.checkIn(0, 1000, 1, 999999, 2, 0);
        edges.setHead(1, false);
        edges.run(2);
        CHECK.due("the smallest label", edges.recordLabel(1), 1000);
        edges.setHead(1, true);
        edges.setHead(0, false);
        edges.run(2);
        CHECK.due("the greatest label", edges.recordLabel(3), 999999);
        CHECK.due("a conflict", edges.count(2), 1);

        BaggageHandling y = Check.loaded(setup);
        y.checkIn(0, 7001, 1, 8001, 2, 0);
        y.run(2);
        CHECK.due("ambiguous", y.recordLabel(1), 1);
        y.setHead(0, false);
        y.run(2);
        CHECK.due("a number after that", y.recordLabel(3), 8001);
        CHECK.due("is no conflict", y.count(2), 0);
        y.setHead(0, true);
        y.run(2);
        CHECK.due("ambiguous again", y.recordLabel(5), 8001);
    }

    private static void destinations() {
        CHECK.promise(24);
        String setup = "ring 10;inlet 0;scanner 1;screen 2 room 1 switch 1 times 1 1 1 exit 3;chute 9 room 1 switch 1;"
            + "chute 8 room 1 switch 1;flight 7 chute 1 open 10 close 20;";
        BaggageHandling x = Check.loaded(setup);
        x.checkIn(0, 7000, 15, 0, 0, 0);
        x.run(1);
        CHECK.due("not read: none", x.destination(0), 0);
        x.run(1);
        CHECK.due("not cleared: a screen", x.destination(1), 4);
        x.run(2);
        CHECK.due("early: a store", x.destination(3), 5);
        x.run(5);
        CHECK.due("still early at tick 9", x.destination(8), 5);
        x.run(1);
        CHECK.due("open: the chute", x.destination(9), 11);
        x.run(8);
        CHECK.due("still open at tick 18", x.destination(7), 11);
        CHECK.due("the chute takes it", x.run(1), 1);
        CHECK.due("bagPlace(0)", x.bagPlace(0), 1);
        BaggageHandling y = Check.loaded(setup.replace("chute 8", "chute 7").replace("open 10 close 20", "open 0 close 6"));
        y.checkIn(0, 7000, 15, 0, 0, 0);
        y.checkIn(0, 9000, 15, 0, 0, 0);
        y.run(5);
        CHECK.due("open at tick 5", y.destination(4), 11);
        CHECK.due("of no flight: a station", y.destination(3), 6);
        y.run(1);
        CHECK.due("closed at tick 6: a station", y.destination(5), 6);
        y.checkIn(0, 0, 0, 0, 0, 0);
        y.run(2);
        CHECK.due("unread with a pass: a station", y.destination(1), 6);
        CHECK.promise(13);
    }

    private static void passLimit() {
        BaggageHandling x = Check.loaded("ring 10;inlet 0;scanner 1;passes 2;");
        x.checkIn(0, 7000, 15, 0, 0, 0);
        x.run(2);
        CHECK.due("passes 1", x.destination(1), 4);
        x.run(10);
        CHECK.due("passes 2", x.destination(1), 4);
        x.run(10);
        CHECK.due("passes 3 of at most 2", x.destination(1), 6);
        CHECK.due("passes(1)", x.passes(1), 3);
    }

    private static void switching() {
        String setup = "ring 12;inlet 0;scanner 1;screen 3 room 9 switch 3 times 99 99 99 exit 11;";
        BaggageHandling x = withBags(setup, 4);
        x.run(4);
        CHECK.due("the first one is taken in tick 4", x.screenSize(0), 1);
        CHECK.due("readyAt(3)", x.readyAt(3), 7);
        x.run(2);
        CHECK.due("two are missed", x.count(3), 2);
        CHECK.due("screenSize(0)", x.screenSize(0), 1);
        x.run(1);
        CHECK.due("the fourth one is taken in tick 7", x.screenSize(0), 2);
        CHECK.due("bagState(3)", x.bagState(3), 4);
        CHECK.due("readyAt(3)", x.readyAt(3), 10);
        BaggageHandling y = withBags(setup.replace("switch 3", "switch 1"), 4);
        y.run(7);
        CHECK.due("a fast diverter takes all", y.screenSize(0), 4);
        CHECK.due("no misses", y.count(3), 0);
    }

    private static void fullOutlets() {
        BaggageHandling x = withBags("ring 12;inlet 0;scanner 1;screen 3 room 2 switch 1 times 99 99 99 exit 11;", 3);
        x.run(6);
        CHECK.due("screenSize(0)", x.screenSize(0), 2);
        CHECK.due("a miss", x.count(3), 1);
        CHECK.due("it goes on", x.bagAt(3), 2);
        CHECK.due("the diverter did not switch", x.readyAt(3), 6);
        x.run(12);
        CHECK.due("missed again", x.count(3), 2);
    }

    private static void emptyDivertings() {
        BaggageHandling x = withBags("ring 12;inlet 0;scanner 1;screen 3 room 2 switch 4 times 99 99 99 exit 11;", 2);
        x.run(2);
        x.takeOff(1);
        x.run(2);
        map(x, "the record is gone", "..c.........");
        CHECK.due("an empty diverting", x.count(4), 1);
        CHECK.due("it counts for the switching time", x.readyAt(3), 8);
        x.run(1);
        CHECK.due("so the next one is missed", x.count(3), 1);
        CHECK.due("screenSize(0)", x.screenSize(0), 0);
        BaggageHandling y = withBags("ring 12;inlet 0;scanner 1;screen 3 room 2 switch 4 times 99 99 99 exit 11;", 1);
        y.run(3);
        y.slip(2);
        y.run(2);
        CHECK.due("a bag without a record passes", Check.mapOf(y), "...x........\n");
    }

    private static void stations() {
        String setup = "ring 12;inlet 0;scanner 1;station 3 room 3 switch 1 time 3 exit 6;chute 10 room 1 switch 1;"
            + "flight 7 chute 0 open 0 close 8;flight 8 chute 0 open 50 close 90;";
        BaggageHandling x = Check.loaded(setup);
        x.checkIn(0, 7001, 0, 8001, 0, 0);
        x.run(4);
        CHECK.due("unread, so it comes to the station", x.bagState(0), 6);
        x.run(2);
        CHECK.due("two of three ticks", x.bagState(0), 6);
        x.run(1);
        CHECK.due("it leaves by the exit", x.bagPlace(0), 6);
        CHECK.due("its first label", x.recordLabel(6), 7001);
        CHECK.due("its passes", x.passes(6), 0);
        CHECK.due("it is to be screened", x.destination(6), 4);

        BaggageHandling y = Check.loaded(setup.replace("close 8;", "close 7;"));
        y.checkIn(0, 7001, 0, 8001, 0, 0);
        y.run(7);
        CHECK.due("the first flight has closed: its second label", y.recordLabel(6), 8001);

        BaggageHandling z = Check.loaded(setup.replace("close 8;", "close 7;"));
        z.checkIn(0, 7001, 0, 9001, 0, 0);
        z.run(7);
        CHECK.due("no proper label: set aside", z.bagState(0), 8);
        CHECK.due("count(5)", z.count(5), 1);
        CHECK.due("stationSize(0)", z.stationSize(0), 0);
        CHECK.due("it is for good", z.forecastState(0, 300), 8);
    }

    private static void stationQueues() {
        BaggageHandling x = Check.loaded("ring 12;inlet 0;scanner 1;station 3 room 2 switch 1 time 3 exit 6;");
        for (int i = 0; i < 4; i++) {
            x.checkIn(0, 9001, 0, 0, 0, 0);
        }
        x.run(5);
        CHECK.due("two in the queue", x.stationSize(0), 2);
        x.run(1);
        CHECK.due("the third one is missed", x.count(3), 1);
        x.run(1);
        CHECK.due("the first one is set aside in tick 7 and makes room", x.stationSize(0), 2);
        CHECK.due("for the fourth one", x.bagState(3), 6);
        x.run(2);
        CHECK.due("the second one is begun with in tick 8", x.bagState(1), 6);
        x.run(1);
        CHECK.due("and done in tick 10", x.bagState(1), 8);
        x.run(3);
        CHECK.due("the fourth one is done in tick 13", x.bagState(3), 8);
        CHECK.due("count(5)", x.count(5), 3);
    }

    private static void screens() {
        String setup = "ring 30;inlet 0;scanner 1;screen 3 room 3 switch 1 times 2 3 4 exit 5;";
        int[] last = {6, 9, 13, 13};
        for (int threat = 0; threat <= 3; threat++) {
            BaggageHandling x = Check.loaded(setup);
            x.checkIn(0, 7001, 15, 0, 0, threat);
            x.run(last[threat] - 1);
            CHECK.due("threat " + threat + " is still screened", x.bagState(0), 4);
            CHECK.due("at level", x.screenLevel(0), Math.min(3, threat + 1));
            x.run(1);
            CHECK.due("threat " + threat + " is decided", x.bagState(0), threat == 3 ? 9 : 1);
            CHECK.due("screenLevel(0)", x.screenLevel(0), 0);
            CHECK.due("isCleared(5)", x.isCleared(5), threat < 3);
            CHECK.due("count(6)", x.count(6), threat == 3 ? 1 : 0);
            CHECK.due("bagPlace(0)", x.bagPlace(0), threat == 3 ? -2 : 5);
        }
    }

    private static void screenQueues() {
        BaggageHandling x = Check.loaded("ring 30;inlet 0;scanner 1;screen 3 room 3 switch 1 times 2 3 4 exit 5;");
        x.checkIn(0, 7001, 15, 0, 0, 3);
        x.checkIn(0, 7002, 15, 0, 0, 1);
        x.run(6);
        CHECK.due("level 2 begins after tick 6", x.screenLevel(0), 2);
        x.run(3);
        CHECK.due("level 3 begins after tick 9", x.screenLevel(0), 3);
        x.run(4);
        CHECK.due("the first one is seized in tick 13", x.bagState(0), 9);
        CHECK.due("the second one begins at level 1", x.screenLevel(0), 1);
        x.run(2);
        CHECK.due("level 2 after tick 15", x.screenLevel(0), 2);
        x.run(2);
        CHECK.due("still there in tick 17", x.screenSize(0), 1);
        x.run(1);
        CHECK.due("cleared in tick 18", x.bagPlace(1), 5);
        CHECK.due("its label", x.recordLabel(5), 7002);
    }

    private static void stores() {
        String setup = "ring 30;inlet 0;scanner 1;screen 2 room 9 switch 1 times 1 1 1 exit 3;store 5 room 4 switch 1 exit 6;"
            + "chute 20 room 9 switch 1;flight 1 chute 0 open 45 close 300;flight 2 chute 0 open 45 close 200;"
            + "flight 3 chute 0 open 30 close 300;flight 4 chute 0 open 60 close 61;";
        BaggageHandling x = Check.loaded(setup);
        x.checkIn(0, 4001, 15, 0, 0, 0);
        x.checkIn(0, 1001, 15, 0, 0, 0);
        x.checkIn(0, 3001, 15, 0, 0, 0);
        x.checkIn(0, 2001, 15, 0, 0, 0);
        x.checkIn(0, 1002, 15, 0, 0, 0);
        x.run(29);
        CHECK.due("storeSize(0)", x.storeSize(0), 4);
        CHECK.due("the fifth one missed it", x.count(3), 1);
        CHECK.due("bagState(4)", x.bagState(4), 1);
        x.run(1);
        CHECK.due("flight 3 opens in tick 30", x.bagPlace(2), 6);
        CHECK.due("storeSize(0)", x.storeSize(0), 3);
        x.run(9);
        CHECK.due("no other one by tick 39", x.storeSize(0), 3);
        x.run(1);
        CHECK.due("the fifth one comes in when it comes round", x.bagState(4), 5);
        x.run(5);
        CHECK.due("of flights 1 and 2, flight 2 closes first", x.bagPlace(3), 6);
        CHECK.due("one in a tick", x.storeSize(0), 3);
        x.run(1);
        CHECK.due("then the bag that came first", x.bagPlace(1), 6);
        x.run(1);
        CHECK.due("then the other one", x.bagPlace(4), 6);
        x.run(12);
        CHECK.due("flight 4 is early in tick 59", x.bagState(0), 5);
        x.run(1);
        CHECK.due("flight 4 opens in tick 60", x.bagPlace(0), 6);
    }

    /** Positions are treated in ascending order, so what a scanner moves ahead is treated in the same tick. */
    private static void order() {
        BaggageHandling x = Check.loaded("ring 20;inlet 0;scanner 1;scanner 5;screen 6 room 3 switch 1 times 9 9 9 exit 15;window 1;");
        x.checkIn(0, 0, 0, 0, 0, 0);
        x.run(2);
        x.checkIn(0, 7001, 15, 0, 0, 0);
        x.run(5);
        x.slip(6);
        x.takeOff(4);
        map(x, "a record behind a bag at the scanner", "....oxo.............");
        x.run(1);
        map(x, "it was moved on to the bag at the screen", ".......o............");
        CHECK.due("which took it", x.bagState(0), 4);

        BaggageHandling y = withBags("ring 10;inlet 0;scanner 1;screen 2 room 1 switch 1 times 1 1 1 exit 3;", 2);
        y.run(4);
        map(y, "one leaves the screen, the other one has room then", "...d......");
        CHECK.due("screenSize(0)", y.screenSize(0), 1);
        CHECK.due("no misses", y.count(3), 0);
    }
}
