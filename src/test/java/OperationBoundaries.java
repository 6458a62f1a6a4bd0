/** The boundary cases of promises 12 to 18: the operations and undo. */
final class OperationBoundaries {
    private static final int I = Scene.I;
    private static final int N = Scene.N;
    private static final int MIN = Integer.MIN_VALUE;
    private static final int MAX = Integer.MAX_VALUE;
    private final Check c;

    private OperationBoundaries(Check check) {
        c = check;
    }

    static void all(Check check) {
        OperationBoundaries b = new OperationBoundaries(check);
        b.checkInWaits();
        b.checkInInlets();
        b.checkInLabels();
        b.checkInHeads();
        b.checkInThreats();
        b.checkInAnswers();
        b.hundredBags();
        b.runs();
        b.runRange();
        b.runAnswers();
        b.runToTheLastTick();
        b.slips();
        b.slipKeepsTheRecord();
        b.slipPositions();
        b.slipIsRefused();
        b.takesOff();
        b.takeOffKeepsTheRecord();
        b.takeOffPositions();
        b.heads();
        b.headsOfAllScanners();
        b.headNumbers();
        b.headsAreSoAlready();
        b.loadsChutes();
        b.loadChuteNumbers();
        b.emptyChutes();
        b.undoes();
        b.undoOfEachOperation();
        b.undoAnswers();
    }

    // ---- promise 12

    private void checkInWaits() {
        c.says("Promise 12", "Checks in a bag: it waits at an inlet, behind the bags that wait there.");
        BaggageHandling x = Check.loaded("ring 10;inlet 7;inlet 2;");
        x.checkIn(1, 7001, 15, 0, 0, 0);
        x.checkIn(0, 7002, 15, 0, 0, 0);
        x.checkIn(1, 7003, 15, 0, 0, 0);
        c.due("waiting(0)", x.waiting(0), 1);
        c.due("waiting(1)", x.waiting(1), 2);
        c.due("it waits", x.bagState(2) * 10 + x.bagPlace(2), 1);
        c.due("it is not on the ring", Scene.map(x), "..........");
        x.run(1);
        c.due("the first one at inlet 1", x.bagAt(2), 0);
        c.due("the first one at inlet 0", x.bagAt(7), 1);
        x.checkIn(1, 7004, 15, 0, 0, 0);
        x.run(1);
        c.due("the second one at inlet 1", x.bagAt(2), 2);
        x.run(1);
        c.due("the third one at inlet 1", x.bagAt(2), 3);
        BaggageHandling longest = Scene.withBags("ring 60;inlet 0;", 100, 7001);
        c.due("a hundred can wait", longest.waiting(0), 100);
        longest.run(60);
        c.due("sixty of them fill the ring", longest.onRing() * 100 + longest.waiting(0), 6040);
        c.due("the last one that entered", longest.bagAt(0), 59);
        longest.run(60);
        c.due("no other one can enter", longest.waiting(0), 40);
    }

    private void checkInInlets() {
        c.says("Promise 12", "`inlet`: an inlet");
        BaggageHandling x = Check.loaded("ring 10;inlet 7;inlet 2;inlet 5;");
        for (int bad : new int[] {MIN, -1, 3, 7, MAX}) {
            c.due("inlet " + bad, x.checkIn(bad, 7001, 15, 0, 0, 0), I);
        }
        c.due("the first inlet", x.checkIn(0, 7001, 15, 0, 0, 0), 0);
        c.due("the last inlet", x.checkIn(2, 7001, 15, 0, 0, 0), 1);
        c.due("no inlet", new BaggageHandling().checkIn(0, 7001, 15, 0, 0, 0), I);
    }

    private void checkInLabels() {
        int[] bad = {MIN, -1000, -1, 1, 999, 1000000, MAX};
        int[] good = {0, 1000, 999999};
        c.says("Promise 12", "`first`: its first label, 0 or 1000 to 999999");
        BaggageHandling x = Check.loaded("ring 10;inlet 0;");
        for (int label : bad) {
            c.due("first " + label, x.checkIn(0, label, 15, 7001, 15, 0), I);
        }
        for (int i = 0; i < 3; i++) {
            c.due("first " + good[i], x.checkIn(0, good[i], 15, 7001, 15, 0), i);
        }
        c.says("Promise 12", "`second`: its second label, 0 or 1000 to 999999");
        for (int label : bad) {
            c.due("second " + label, x.checkIn(0, 7001, 15, label, 15, 0), I);
        }
        for (int i = 0; i < 3; i++) {
            c.due("second " + good[i], x.checkIn(0, 7001, 15, good[i], 15, 0), 3 + i);
        }
    }

    private void checkInHeads() {
        int[] bad = {MIN, -1, 16, 17, MAX};
        c.says("Promise 12", "`firstHeads`: heads that see the first label, 0 to 15");
        BaggageHandling x = Check.loaded("ring 10;inlet 0;");
        for (int heads : bad) {
            c.due("firstHeads " + heads, x.checkIn(0, 7001, heads, 0, 0, 0), I);
            c.due("firstHeads " + heads + " without a label", x.checkIn(0, 0, heads, 0, 0, 0), I);
        }
        for (int heads = 0; heads <= 15; heads++) {
            c.due("firstHeads " + heads, x.checkIn(0, 7001, heads, 0, 0, 0), heads);
        }
        c.says("Promise 12", "`secondHeads`: heads that see the second label, 0 to 15");
        for (int heads : bad) {
            c.due("secondHeads " + heads, x.checkIn(0, 0, 0, 7001, heads, 0), I);
            c.due("secondHeads " + heads + " without a label", x.checkIn(0, 0, 0, 0, heads, 0), I);
        }
        for (int heads = 0; heads <= 15; heads++) {
            c.due("secondHeads " + heads, x.checkIn(0, 0, 0, 7001, heads, 0), 16 + heads);
        }
    }

    private void checkInThreats() {
        c.says("Promise 12", "`threat`: its threat level, 0 to 3");
        BaggageHandling x = Check.loaded("ring 10;inlet 0;");
        for (int bad : new int[] {MIN, -1, 4, MAX}) {
            c.due("threat " + bad, x.checkIn(0, 7001, 15, 0, 0, bad), I);
        }
        for (int threat = 0; threat <= 3; threat++) {
            c.due("threat " + threat, x.checkIn(0, 7001, 15, 0, 0, threat), threat);
        }
    }

    private void checkInAnswers() {
        c.says("Promise 12", "Returns the number of the bag;");
        BaggageHandling x = Check.loaded("ring 10;inlet 0;");
        c.due("the first one", Scene.bag(x, 7001), 0);
        c.due("the second one", Scene.bag(x, 7001), 1);
        x.undo();
        c.due("the second one again", Scene.bag(x, 7001), 1);
        c.says("Promise 12", "INVALID for an invalid argument;");
        c.due("checkIn", x.checkIn(0, 7001, 15, 0, 0, 4), I);
        c.due("no bag is checked in", x.bags() * 10 + x.waiting(0), 22);
        c.due("it is no operation", x.undo(), 1);
    }

    private void hundredBags() {
        c.says("Promise 12", "NOT_FOUND if there are 100 bags already.");
        BaggageHandling x = Check.loaded("ring 10;inlet 0;");
        Scene.bags(x, 99, 7001);
        c.due("the 100th bag", Scene.bag(x, 7001), 99);
        BaggageHandling y = Check.loaded("ring 10;inlet 0;");
        Scene.bags(y, 100, 7001);
        c.due("the 101st bag", Scene.bag(x, 7001), N);
        c.due("bags()", x.bags() * 1000 + x.waiting(0), 100100);
        Scene.dueSame(c, "nothing changes", x, y);
        BaggageHandling z = Check.loaded("ring 10;inlet 0;");
        Scene.bags(z, 100, 7001);
        z.run(1);
        z.takeOff(0);
        c.due("a bag that is set aside counts, too", Scene.bag(z, 7001), N);
        z.undo();
        z.undo();
        z.undo();
        c.due("after undoing the 100th one", Scene.bag(z, 7001), 99);
    }

    // ---- promise 13

    private void runs() {
        c.says("Promise 13", "Runs the system.");
        BaggageHandling x = Check.plantAfter(0);
        BaggageHandling y = Check.plantAfter(0);
        x.run(15);
        for (int i = 0; i < 15; i++) {
            y.run(1);
        }
        c.due("fifteen ticks at once, or one by one", Scene.everything(x), Scene.everything(y));
        c.due("tick()", x.tick(), 15);
    }

    private void runRange() {
        c.says("Promise 13", "`ticks`: 1 to 300");
        BaggageHandling x = new BaggageHandling();
        for (int bad : new int[] {MIN, -300, -1, 0, 301, 100000, MAX}) {
            c.due("run(" + bad + ")", x.run(bad), I);
            c.due("tick()", x.tick(), 0);
        }
        c.due("run(1)", x.run(1), 0);
        c.due("tick()", x.tick(), 1);
        c.due("run(300)", x.run(300), 0);
        c.due("tick()", x.tick(), 301);
    }

    private void runAnswers() {
        c.says("Promise 13", "Returns how many bags came into chutes;");
        String setup = Check.PLANT.replace("room 2 switch 2", "room 9 switch 1").replace("room 2 switch 3", "room 20 switch 1")
            .replace("times 2 3 4", "times 1 1 1");
        BaggageHandling x = Scene.withBags(setup, 5, 7001);
        c.due("none", x.run(13), 0);
        c.due("one", x.run(1), 1);
        c.due("two", x.run(2), 2);
        c.due("the last two", x.run(300), 2);
        c.due("no more", x.run(300), 0);
        BaggageHandling y = Scene.withBags(setup, 5, 7001);
        c.due("all five", y.run(300), 5);
        y.undo();
        c.due("all five again", y.run(299), 5);
        BaggageHandling empty = Check.plantAfter(8);
        empty.takeOff(6);
        c.due("a record alone is no bag", empty.run(20), 0);
    }

    private void runToTheLastTick() {
        c.says("Promise 13", "INVALID for an invalid argument or if the present tick would exceed 100000 (nothing changes).");
        BaggageHandling x = Check.loaded("ring 10;inlet 0;");
        Scene.runTo(x, 99800);
        c.due("to tick 100001", x.run(201), I);
        c.due("to tick 100100", x.run(300), I);
        c.due("tick()", x.tick(), 99800);
        c.due("to tick 100000", x.run(200), 0);
        c.due("tick()", x.tick(), 100000);
        Scene.bag(x, 7001);
        c.due("to tick 100001", x.run(1), I);
        c.due("to tick 100300", x.run(300), I);
        c.due("tick()", x.tick(), 100000);
        c.due("the bag waits", x.bagState(0), 0);
        c.due("the run that was refused is no operation", x.undo(), 9);
        c.due("so checkIn is undone", x.bags(), 0);
        x.undo();
        c.due("then the last run", x.tick(), 99800);
        c.due("run(300)", x.run(300), I);
        c.due("run(199)", x.run(199), 0);
        c.due("run(1)", x.run(1), 0);
        c.due("run(1) again", x.run(1), I);
    }

    // ---- promise 14

    private void slips() {
        c.says("Promise 14", "A bag slips back by one position;");
        BaggageHandling x = Scene.withBags("ring 10;inlet 5;", 1, 7001);
        x.run(1);
        int[] places = {4, 3, 2, 1, 0, 9, 8, 7, 6, 5, 4};
        int place = 5;
        for (int next : places) {
            c.due("slip(" + place + ")", x.slip(place), true);
            c.due("bagPlace(0)", x.bagPlace(0), next);
            c.due("bagAt(" + next + ")", x.bagAt(next), 0);
            c.due("bagAt(" + place + ")", x.bagAt(place), N);
            place = next;
        }
        x.run(1);
        c.due("the ring moves it on", x.bagPlace(0), 5);
    }

    private void slipKeepsTheRecord() {
        c.says("Promise 14", "its record (if there is one at its position) does not move.");
        BaggageHandling x = Check.plantAfter(7);
        x.slip(5);
        c.due("the record stays", x.recordLabel(5), 7001);
        c.due("its mark", x.isCleared(5), true);
        c.due("its passes", x.passes(5), 1);
        c.due("map", Scene.map(x), "....xo..............");
        x.slip(4);
        c.due("without a record", Scene.map(x), "...x.o..............");
        Scene.slips(x, 3, 18);
        c.due("round the ring, to its record", Scene.map(x), ".....d..............");
    }

    private void slipPositions() {
        c.says("Promise 14", "`position`: a position with a bag");
        BaggageHandling x = Scene.withBags("ring 10;inlet 0;inlet 9;", 1, 7001);
        x.run(1);
        c.due("the first position", x.slip(0), true);
        c.due("the last position", x.slip(9), true);
        c.due("bagPlace(0)", x.bagPlace(0), 8);
        c.says("Promise 14", "Returns true;");
        c.due("slip(8)", x.slip(8), true);
        c.due("slip(7)", x.slip(7), true);
    }

    private void slipIsRefused() {
        c.says("Promise 14", "false for an invalid argument, if there is no bag at the position, or if there is a bag at the position behind it"
            + " (position - 1, modulo n).");
        BaggageHandling x = Check.loaded("ring 10;inlet 0;inlet 9;inlet 4;");
        for (int inlet = 0; inlet < 3; inlet++) {
            x.checkIn(inlet, 7001, 15, 0, 0, 0);
        }
        x.run(1);
        x.takeOff(4);
        c.due("map", Scene.map(x), "a...o....a");
        BaggageHandling y = Check.loaded("ring 10;inlet 0;inlet 9;inlet 4;");
        for (int inlet = 0; inlet < 3; inlet++) {
            y.checkIn(inlet, 7001, 15, 0, 0, 0);
        }
        y.run(1);
        y.takeOff(4);
        for (int bad : new int[] {MIN, -1, 10, 11, MAX}) {
            c.due("slip(" + bad + ")", x.slip(bad), false);
        }
        for (int p = 1; p < 9; p++) {
            c.due("no bag at " + p, x.slip(p), false);
        }
        c.due("bag 1 is behind bag 0, over the end of the ring", x.slip(0), false);
        Scene.dueSame(c, "nothing changes", x, y);
        BaggageHandling z = Scene.withBags("ring 10;inlet 4;", 2, 7001);
        z.run(2);
        c.due("a bag is behind", z.slip(5), false);
        c.due("none is behind that one", z.slip(4), true);
        c.due("only a record is behind now", z.slip(5), true);
        c.due("a bag alone is behind", z.slip(4), false);
        BaggageHandling full = Scene.withBags("ring 10;inlet 0;", 10, 7001);
        full.run(10);
        for (int p = 0; p < 10; p++) {
            c.due("a full ring, slip(" + p + ")", full.slip(p), false);
        }
    }

    // ---- promise 15

    private void takesOff() {
        c.says("Promise 15", "Takes a bag off the ring by hand;");
        BaggageHandling x = Scene.withBags("ring 10;inlet 0;", 2, 7001);
        x.run(2);
        x.takeOff(1);
        c.due("bagAt(1)", x.bagAt(1), N);
        c.due("onRing()", x.onRing(), 1);
        c.says("Promise 15", "The bag is set aside.");
        c.due("bagState(0)", x.bagState(0), 8);
        c.due("bagPlace(0)", x.bagPlace(0), N);
        c.due("count(5)", x.count(5), 1);
        c.due("for good", x.forecastState(0, 300), 8);
        c.due("the other one is not", x.bagState(1), 1);
    }

    private void takeOffKeepsTheRecord() {
        c.says("Promise 15", "its record (if there is one at its position) does not change.");
        BaggageHandling x = Check.plantAfter(7);
        x.takeOff(5);
        c.due("its label", x.recordLabel(5), 7001);
        c.due("its mark", x.isCleared(5), true);
        c.due("its passes", x.passes(5), 1);
        c.due("map", Scene.map(x), ".....o..............");
        BaggageHandling y = Check.plantAfter(7);
        y.slip(5);
        y.takeOff(4);
        c.due("without a record there", Scene.map(y), ".....o..............");
    }

    private void takeOffPositions() {
        c.says("Promise 15", "`position`: a position with a bag");
        BaggageHandling x = Check.loaded("ring 60;inlet 59;inlet 0;");
        x.checkIn(1, 7001, 15, 0, 0, 0);
        x.checkIn(0, 7001, 15, 0, 0, 0);
        x.run(1);
        c.due("the first position", x.takeOff(0) != I, true);
        c.due("the last position", x.takeOff(59) != I, true);
        c.due("bagState(0)", x.bagState(0), 8);
        c.due("bagState(1)", x.bagState(1), 8);
        c.says("Promise 15", "Returns the bag;");
        BaggageHandling y = Scene.withBags("ring 10;inlet 0;", 2, 7001);
        y.run(2);
        c.due("takeOff(0)", y.takeOff(0), 1);
        c.due("takeOff(1)", y.takeOff(1), 0);
        c.says("Promise 15", "INVALID for an invalid argument;");
        for (int bad : new int[] {MIN, -1, 60, MAX}) {
            c.due("takeOff(" + bad + ")", x.takeOff(bad), I);
        }
        c.says("Promise 15", "NOT_FOUND if there is no bag.");
        c.due("a record alone", x.takeOff(0), N);
        c.due("nothing", x.takeOff(1), N);
        c.due("that is no operation", x.undo(), 4);
        c.due("so the second takeOff is undone", x.bagAt(59), 1);
    }

    // ---- promise 16

    private void heads() {
        c.says("Promise 16", "Puts a scanner head out of order, or into order.");
        BaggageHandling x = Check.loaded("ring 20;inlet 0;scanner 1;");
        c.due("out of order", x.setHead(1, false), true);
        x.checkIn(0, 7001, 2, 0, 0, 0);
        x.run(2);
        c.due("it sees nothing", x.recordLabel(1), 0);
        c.says("Promise 16", "`works`: true if it works from now on");
        c.due("into order", x.setHead(1, true), true);
        x.checkIn(0, 7001, 2, 0, 0, 0);
        x.run(2);
        c.due("it sees the label", x.recordLabel(1), 7001);
        c.due("what it did not see is not read later", x.recordLabel(3), 0);
    }

    private void headsOfAllScanners() {
        c.says("Promise 16", "It is the head of this number of all scanners.");
        BaggageHandling x = Check.loaded("ring 20;inlet 0;scanner 1;scanner 3;scanner 5;");
        x.setHead(0, false);
        x.checkIn(0, 7001, 1, 8001, 2, 0);
        x.checkIn(0, 7001, 1, 0, 0, 0);
        x.run(6);
        c.due("the others see it at each scanner", x.recordLabel(5), 8001);
        x.run(1);
        c.due("it sees nothing at each scanner", x.recordLabel(5), 0);
        c.due("its passes", x.passes(5), 3);
    }

    private void headNumbers() {
        c.says("Promise 16", "`head`: 0 to 3");
        for (int head = 0; head < 4; head++) {
            BaggageHandling x = Check.loaded("ring 20;inlet 0;scanner 1;");
            c.due("setHead(" + head + ", false)", x.setHead(head, false), true);
            x.checkIn(0, 7001, 1 << head, 0, 0, 0);
            x.checkIn(0, 7001, 15 - (1 << head), 0, 0, 0);
            x.run(3);
            c.due("head " + head + " sees nothing", x.recordLabel(2), 0);
            c.due("the other ones do", x.recordLabel(1), 7001);
        }
        c.says("Promise 16", "Returns true;");
        BaggageHandling x = new BaggageHandling();
        c.due("the first head", x.setHead(0, false), true);
        c.due("the last head", x.setHead(3, false), true);
    }

    private void headsAreSoAlready() {
        c.says("Promise 16", "false for an invalid argument or if it is so already.");
        BaggageHandling x = new BaggageHandling();
        for (int bad : new int[] {MIN, -32, -1, 4, 5, 31, 32, 35, MAX}) {
            c.due("setHead(" + bad + ", false)", x.setHead(bad, false), false);
            c.due("setHead(" + bad + ", true)", x.setHead(bad, true), false);
        }
        for (int head = 0; head < 4; head++) {
            c.due("it works already", x.setHead(head, true), false);
        }
        c.due("that is no operation", x.undo(), I);
        for (int head = 0; head < 4; head++) {
            c.due("out of order", x.setHead(head, false), true);
            c.due("it is out of order already", x.setHead(head, false), false);
        }
        c.due("four operations", x.undo(), 3);
        c.due("undone, it works", x.setHead(3, true), false);
    }

    // ---- promise 17

    private static BaggageHandling withFullChute(int room) {
        BaggageHandling x = Check.loaded("ring 40;inlet 0;scanner 1;screen 2 room 20 switch 1 times 1 1 1 exit 3;chute 4 room 9 switch 1;"
            + "chute 5 room " + room + " switch 1;flight 7 chute 1 open 0 close 999;");
        Scene.bags(x, room, 7001);
        x.run(6 + room);
        return x;
    }

    private void loadsChutes() {
        c.says("Promise 17", "Loads all bags of a chute into the aircraft; the chute is empty afterwards.");
        for (int room : new int[] {1, 20}) {
            BaggageHandling x = withFullChute(room);
            c.due("the chute is full", x.chuteSize(1), room);
            c.due("loadChute(1)", x.loadChute(1), room);
            c.due("it is empty", x.chuteSize(1), 0);
            for (int bag = 0; bag < room; bag++) {
                c.due("bagState(" + bag + ")", x.bagState(bag), 3);
                c.due("bagPlace(" + bag + ")", x.bagPlace(bag), 1);
            }
            c.due("undo()", x.undo() >= 0, true);
            c.due("undone, it is full", x.chuteSize(1), room);
            c.due("bagState of the last one", x.bagState(room - 1), 2);
            c.due("again", x.loadChute(1), room);
        }
        c.says("Promise 17", "Returns how many bags there were;");
        c.due("one", withFullChute(1).loadChute(1), 1);
        c.due("two", withFullChute(2).loadChute(1), 2);
        c.due("twenty", withFullChute(20).loadChute(1), 20);
    }

    private void loadChuteNumbers() {
        c.says("Promise 17", "`chute`: a chute");
        BaggageHandling x = withFullChute(2);
        c.due("the first chute", x.loadChute(0), N);
        c.due("the last chute", x.loadChute(1), 2);
        c.says("Promise 17", "INVALID for an invalid argument.");
        for (int bad : new int[] {MIN, -1, 2, 5, MAX}) {
            c.due("loadChute(" + bad + ")", x.loadChute(bad), I);
        }
        c.due("loadChute(0) without chutes", new BaggageHandling().loadChute(0), I);
    }

    private void emptyChutes() {
        c.says("Promise 17", "NOT_FOUND if the chute is empty (nothing changes);");
        BaggageHandling x = withFullChute(2);
        BaggageHandling y = withFullChute(2);
        x.loadChute(1);
        y.loadChute(1);
        c.due("a chute that had no bags", x.loadChute(0), N);
        c.due("a chute that was loaded", x.loadChute(1), N);
        Scene.dueSame(c, "nothing changes", x, y);
    }

    // ---- promise 18

    private void undoes() {
        c.says("Promise 18", "Undoes the latest operation (section 11) that has not been undone.");
        BaggageHandling x = new BaggageHandling();
        x.run(1);
        x.run(10);
        x.run(100);
        x.undo();
        c.due("the latest one", x.tick(), 11);
        x.undo();
        c.due("the one before it", x.tick(), 1);
        x.run(20);
        x.undo();
        c.due("a new one", x.tick(), 1);
        x.undo();
        c.due("the first one", x.tick(), 0);
    }

    private void undoOfEachOperation() {
        c.says("Promise 18", "Undoes the latest operation (section 11) that has not been undone.");
        BaggageHandling x = Scene.busy();
        String before = Scene.everything(x);
        x.checkIn(0, 7001, 15, 8001, 15, 3);
        x.undo();
        c.due("checkIn", Scene.everything(x), before);
        x.run(300);
        x.undo();
        c.due("run", Scene.everything(x), before);
        c.due("slip", x.slip(24), true);
        x.undo();
        c.due("slip", Scene.everything(x), before);
        c.due("takeOff", x.takeOff(17), 11);
        x.undo();
        c.due("takeOff", Scene.everything(x), before);
        c.due("setHead", x.setHead(2, true), true);
        x.undo();
        c.due("setHead", x.setHead(2, false), false);
        c.due("loadChute", x.loadChute(0), 1);
        x.undo();
        c.due("loadChute", Scene.everything(x), before);
        // Each operation took the place of the oldest one, and gave it back free.
        for (int left = 8; left >= 0; left--) {
            c.due("nine are left", x.undo(), left);
        }
        c.due("the tenth was dropped for them", x.undo(), I);
    }

    private void undoAnswers() {
        c.says("Promise 18", "Returns the number of operations that can still be undone;");
        BaggageHandling x = Scene.busy();
        for (int left = 9; left >= 0; left--) {
            c.due("undo()", x.undo(), left);
        }
        c.says("Promise 18", "INVALID if there is none.");
        String all = Scene.everything(x);
        c.due("undo()", x.undo(), I);
        c.due("nothing changes", Scene.everything(x), all);
        c.due("undo() of a new object", new BaggageHandling().undo(), I);
        c.due("undo() after a load", Check.loaded(Check.PLANT).undo(), I);
        BaggageHandling y = Check.plantAfter(5);
        Check.put(y, "ring x");
        y.load();
        c.due("undo() after a load with an error", y.undo(), 1);
        Check.put(y, "ring 10;");
        y.load();
        c.due("undo() after a good load", y.undo(), I);
    }
}
