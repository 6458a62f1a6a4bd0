/** The boundary cases of section 5 that are about inlets, exits and outlets, and those of sections 6 to 9. */
final class OutletBoundaries {
    private static final int N = Scene.N;
    private final Check c;

    private OutletBoundaries(Check check) {
        c = check;
    }

    static void all(Check check) {
        OutletBoundaries b = new OutletBoundaries(check);
        b.inletIsBlocked();
        b.inletTakesTheFirst();
        b.inletMakesARecord();
        b.exitIsBlocked();
        b.exitTakesTheFirst();
        b.anyOutletWillDo();
        b.otherDestinations();
        b.onlyTheChuteOfTheFlight();
        b.fullOutlets();
        b.switchingOutlets();
        b.misses();
        b.recordIsRemoved();
        b.bagIsInTheOutlet();
        b.emptyDivertings();
        b.bagsWithoutRecords();
        b.firstInFirstOut();
        b.stationQueue();
        b.stationExit();
        b.stationCounter();
        b.stationTime();
        b.stationLabels();
        b.stationSetsAside();
        b.screenQueue();
        b.screenExit();
        b.screenCounter();
        b.screenClears();
        b.screenGoesOn();
        b.screenSeizes();
        b.storeRoom();
        b.storeExit();
        b.storeReleasesOne();
        b.storeReleasesOpenFlights();
        b.storeReleasesTheFirstToClose();
        b.storeKeepsRecords();
        b.chuteRoom();
        b.chuteUntilLoaded();
        b.misrouted();
        b.deletedRecords();
    }

    // ---- section 5: inlets and exits

    private void inletIsBlocked() {
        c.says("Section 5", "Inlet: if neither a bag nor a record is at the position and bags are waiting at the inlet,");
        BaggageHandling x = Scene.withBags("ring 10;inlet 0;", 1, 7001);
        x.run(10);
        Scene.bag(x, 7002);
        x.run(1);
        c.due("blocked by a bag with a record", x.waiting(0), 1);
        x.run(1);
        c.due("not blocked", x.waiting(0), 0);
        BaggageHandling y = Scene.withBags("ring 10;inlet 0;", 1, 7001);
        y.run(10);
        y.slip(9);
        Scene.bag(y, 7002);
        y.run(1);
        c.due("blocked by a record alone", Scene.map(y), "o........x");
        y.run(1);
        c.due("blocked by a bag alone", Scene.map(y), "xo........");
        y.run(1);
        c.due("not blocked", Scene.map(y), "axo.......");
        BaggageHandling z = Check.loaded("ring 10;inlet 0;");
        z.run(3);
        c.due("no bag is waiting", Scene.map(z), "..........");
    }

    private void inletTakesTheFirst() {
        c.says("Section 5", "the first waiting bag enters the ring at this position");
        BaggageHandling x = Scene.withBags("ring 10;inlet 4;", 3, 7001);
        for (int bag = 0; bag < 3; bag++) {
            x.run(1);
            c.due("bagAt(4)", x.bagAt(4), bag);
            c.due("waiting(0)", x.waiting(0), 2 - bag);
        }
    }

    private void inletMakesARecord() {
        c.says("Section 5", "Inlet: if neither a bag nor a record is at the position and bags are waiting at the inlet, the first waiting bag"
            + " enters the ring at this position with a new record (label 0, not cleared, no passes).");
        BaggageHandling x = Scene.withBags("ring 10;inlet 4;", 1, 7001);
        x.run(1);
        c.due("bagAt(4)", x.bagAt(4), 0);
        c.due("label 0", x.recordLabel(4), 0);
        c.due("not cleared", x.isCleared(4), false);
        c.due("no passes", x.passes(4), 0);
    }

    private void exitIsBlocked() {
        c.says("Section 5", "Exit: if neither a bag nor a record is at the position and bags are waiting at this exit,");
        BaggageHandling x = Scene.withBags("ring 20;inlet 0;inlet 5;scanner 1;screen 2 room 9 switch 1 times 1 1 1 exit 6;", 1, 7001);
        x.run(2);
        x.checkIn(1, 0, 0, 0, 0, 0);
        x.run(1);
        x.checkIn(1, 0, 0, 0, 0, 0);
        x.run(1);
        c.due("blocked by a bag with a record", x.bagState(0), 7);
        x.takeOff(5);
        x.checkIn(1, 0, 0, 0, 0, 0);
        x.run(1);
        c.due("a record alone", Scene.map(x), ".....aoa............");
        c.due("blocked by a record alone", x.bagState(0), 7);
        x.slip(5);
        x.run(2);
        c.due("a bag alone", Scene.map(x), "......xooa..........");
        c.due("blocked by a bag alone", x.bagState(0), 7);
        x.run(1);
        c.due("not blocked", Scene.map(x), "......dxooa.........");
        x.run(1);
        c.due("no other bag is waiting", Scene.map(x), ".......dxooa........");
    }

    private void exitTakesTheFirst() {
        c.says("Section 5", "Exit: if neither a bag nor a record is at the position and bags are waiting at this exit, the first one of them"
            + " enters the ring at this position with its record.");
        BaggageHandling x = Check.loaded("ring 20;inlet 0;inlet 5;scanner 1;screen 2 room 9 switch 1 times 1 1 1 exit 6;");
        for (int i = 0; i < 3; i++) {
            Scene.bag(x, 7001 + i);
        }
        for (int i = 0; i < 5; i++) {
            x.checkIn(1, 0, 0, 0, 0, 0);
        }
        x.run(6);
        c.due("three are waiting", x.exitSize(6), 3);
        for (int i = 0; i < 3; i++) {
            x.run(1);
            c.due("the first one of them", x.bagAt(6), i);
            c.due("its label", x.recordLabel(6), 7001 + i);
            c.due("cleared", x.isCleared(6), true);
            c.due("its passes", x.passes(6), 1);
            c.due("the others wait", x.exitSize(6), 2 - i);
        }
    }

    // ---- section 5: outlets

    /** Bags of flight 7 come one after another to an outlet: a chute, a screen, a store or a station at position 5. */
    private static final String[] LINES = {
        "ring 40;inlet 0;scanner 1;screen 2 room 20 switch 1 times 1 1 1 exit 3;chute 5 room ROOM switch SWITCH;"
            + "flight 7 chute 0 open 0 close 999;",
        "ring 40;inlet 0;scanner 1;screen 5 room ROOM switch SWITCH times 99 99 99 exit 39;",
        "ring 40;inlet 0;scanner 1;screen 2 room 20 switch 1 times 1 1 1 exit 3;store 5 room ROOM switch SWITCH exit 39;"
            + "chute 38 room 1 switch 1;flight 7 chute 0 open 998 close 999;",
        "ring 40;inlet 0;scanner 1;station 5 room ROOM switch SWITCH time 99 exit 39;"};
    private static final String[] NAMES = {"chute", "screen", "store", "station"};
    /** The state of a bag that is in the outlet. */
    private static final int[] STATES = {2, 4, 5, 6};

    private static BaggageHandling line(int outlet, int room, int switching, int bags) {
        BaggageHandling x = Check.loaded(LINES[outlet].replace("ROOM", "" + room).replace("SWITCH", "" + switching));
        for (int i = 0; i < bags; i++) {
            x.checkIn(0, 7001 + i, outlet == 3 ? 0 : 15, 0, 0, 0);
        }
        return x;
    }

    private static int sizeOf(BaggageHandling x, int outlet) {
        int[] sizes = {x.chuteSize(0), x.screenSize(0), x.storeSize(0), x.stationSize(0)};
        return sizes[outlet];
    }

    private void anyOutletWillDo() {
        c.says("Section 5", "Chute, screen, store, station (outlets): if there is a record at the position and its destination is this outlet"
            + " (any screen, store or station will do if that is the destination;");
        BaggageHandling x = Scene.withBags("ring 20;inlet 0;scanner 1;screen 2 room 1 switch 1 times 99 99 99 exit 12;"
            + "screen 3 room 1 switch 1 times 99 99 99 exit 13;", 3, 7001);
        x.run(9);
        c.due("both screens", x.screenSize(0) * 10 + x.screenSize(1), 11);
        c.due("two misses of the third bag, one of the second", x.count(3), 3);
        BaggageHandling y = Scene.withBags("ring 20;inlet 0;scanner 1;station 2 room 1 switch 1 time 99 exit 12;"
            + "station 3 room 1 switch 1 time 99 exit 13;", 3, 0);
        y.run(9);
        c.due("both stations", y.stationSize(0) * 10 + y.stationSize(1), 11);
        BaggageHandling z = Scene.withBags("ring 20;inlet 0;scanner 1;screen 2 room 9 switch 1 times 1 1 1 exit 3;"
            + "store 5 room 1 switch 1 exit 12;store 6 room 1 switch 1 exit 13;chute 19 room 1 switch 1;flight 7 chute 0 open 98 close"
            + " 99;", 3, 7001);
        z.run(12);
        c.due("both stores", z.storeSize(0) * 10 + z.storeSize(1), 11);
    }

    /** A record passes the outlets of other destinations, and that is no miss. */
    private void otherDestinations() {
        c.says("Section 5", "if there is a record at the position and its destination is this outlet");
        BaggageHandling x = Check.loaded("ring 30;inlet 0;screen 1 room 9 switch 1 times 1 1 1 exit 2;store 3 room 9 switch 1 exit 4;"
            + "station 5 room 9 switch 1 time 1 exit 6;chute 7 room 9 switch 1;scanner 9;store 11 room 9 switch 1 exit 12;"
            + "chute 13 room 9 switch 1;station 14 room 9 switch 1 time 9 exit 15;screen 16 room 9 switch 1 times 1 1 1 exit 17;"
            + "flight 7 chute 0 open 0 close 999;");
        x.checkIn(0, 7001, 15, 0, 0, 0);
        x.run(9);
        c.due("without a destination it passes all", Scene.map(x), "........a.....................");
        x.run(7);
        c.due("it passes all but the screen", x.bagAt(15), 0);
        x.run(1);
        c.due("the screen takes it", x.bagState(0), 4);
        c.due("no misses", x.count(3), 0);
        x.run(21);
        c.due("cleared, it passes all but its chute", x.bagState(0) * 10 + x.bagPlace(0), 20);
        c.due("no misses", x.count(3), 0);
    }

    private void onlyTheChuteOfTheFlight() {
        c.says("Section 5", "a chute only if it is the chute of the flight), the outlet tries to take it.");
        String setup = "ring 20;inlet 0;scanner 1;screen 2 room 9 switch 1 times 1 1 1 exit 3;chute 5 room 1 switch 1;"
            + "chute 6 room 1 switch 1;chute 7 room 1 switch 1;";
        for (int chute = 0; chute < 3; chute++) {
            BaggageHandling x = Scene.withBags(setup + "flight 7 chute " + chute + " open 0 close 99;", 1, 7001);
            c.due("ticksToChute", x.ticksToChute(0, 99), 6 + chute);
            x.run(10);
            c.due("its chute", x.bagPlace(0), chute);
            c.due("no misses", x.count(3), 0);
        }
    }

    private void fullOutlets() {
        c.says("Section 5", "It cannot if it is full, or if its diverter is still switching:");
        for (int outlet = 0; outlet < 4; outlet++) {
            for (int room : new int[] {1, 2, 20}) {
                BaggageHandling x = line(outlet, room, 1, room + 1);
                // The last bag comes to the outlet, at position 5, in tick 6 + room.
                x.run(5 + room);
                String what = NAMES[outlet] + " with room " + room;
                c.due(what + " is full", sizeOf(x, outlet), room);
                c.due(what + ": no misses", x.count(3), 0);
                x.run(1);
                c.due(what + ": one bag too many", sizeOf(x, outlet), room);
                c.due(what + ": a miss", x.count(3), 1);
                c.due(what + ": it goes on", x.bagAt(5), room);
            }
        }
    }

    private void switchingOutlets() {
        c.says("Section 5", "after taking something in tick t, a diverter with the switching time s can take again in tick t +"
            + " s at the earliest.");
        for (int outlet = 0; outlet < 4; outlet++) {
            for (int switching : new int[] {1, 2, 9}) {
                BaggageHandling x = line(outlet, 20, switching, switching + 1);
                String what = NAMES[outlet] + " with switching time " + switching;
                x.run(6);
                c.due(what + " takes in tick 6", sizeOf(x, outlet), 1);
                c.due(what + ": readyAt(5)", x.readyAt(5), 6 + switching);
                Scene.runTo(x, 5 + switching);
                c.due(what + " takes nothing before tick t + s", sizeOf(x, outlet), 1);
                c.due(what + ": misses", x.count(3), switching - 1);
                x.run(1);
                c.due(what + " takes in tick t + s", sizeOf(x, outlet), 2);
                c.due(what + ": no more misses", x.count(3), switching - 1);
            }
        }
    }

    private void misses() {
        c.says("Section 5", "If it cannot, the miss count increases by 1, and nothing else happens.");
        for (int outlet = 0; outlet < 4; outlet++) {
            BaggageHandling x = line(outlet, 1, 9, 2);
            x.run(6);
            int passes = x.passes(4);
            boolean cleared = x.isCleared(4);
            int label = x.recordLabel(4);
            x.run(1);
            c.due(NAMES[outlet] + ": a miss", x.count(3), 1);
            c.due(NAMES[outlet] + ": the bag stays on the ring", x.bagAt(5) * 10 + x.bagState(1), 11);
            c.due(NAMES[outlet] + ": its label", x.recordLabel(5), label);
            c.due(NAMES[outlet] + ": its passes", x.passes(5), passes);
            c.due(NAMES[outlet] + ": its mark", x.isCleared(5), cleared);
            c.due(NAMES[outlet] + ": readyAt(5)", x.readyAt(5), 15);
            c.due(NAMES[outlet] + ": its size", sizeOf(x, outlet), 1);
            c.due(NAMES[outlet] + ": no empty diverting", x.count(4), 0);
            BaggageHandling y = line(outlet, 1, 1, 2);
            y.run(6);
            y.takeOff(4);
            y.run(1);
            c.due(NAMES[outlet] + ": a record alone misses a full one, too", y.count(3) * 10 + y.count(4), 10);
            c.due(NAMES[outlet] + ": and stays", Scene.map(y).charAt(5), 'o');
        }
    }

    private void recordIsRemoved() {
        c.says("Section 5", "If it can, the record is removed from the ring.");
        for (int outlet = 0; outlet < 4; outlet++) {
            BaggageHandling x = line(outlet, 1, 1, 1);
            x.run(5);
            c.due(NAMES[outlet] + ": the record is before it", x.recordLabel(4) != N, true);
            x.run(1);
            c.due(NAMES[outlet] + ": no record", x.recordLabel(5), N);
            c.due(NAMES[outlet] + ": nothing on the ring", Scene.map(x), ".".repeat(40));
        }
    }

    private void bagIsInTheOutlet() {
        c.says("Section 5", "If there is a bag at the position, it leaves the ring with the record and is in the outlet then.");
        for (int outlet = 0; outlet < 4; outlet++) {
            BaggageHandling x = line(outlet, 1, 1, 1);
            x.run(6);
            c.due(NAMES[outlet] + ": no bag at the position", x.bagAt(5), N);
            c.due(NAMES[outlet] + ": bagState(0)", x.bagState(0), STATES[outlet]);
            c.due(NAMES[outlet] + ": bagPlace(0)", x.bagPlace(0), 0);
            c.due(NAMES[outlet] + ": its size", sizeOf(x, outlet), 1);
            c.due(NAMES[outlet] + ": onRing()", x.onRing(), 0);
            c.due(NAMES[outlet] + ": no empty diverting", x.count(4), 0);
        }
    }

    private void emptyDivertings() {
        c.says("Section 5", "If there is none, the empty count increases by 1, and the record is deleted (this counts as taking for"
            + " the switching time).");
        for (int outlet = 0; outlet < 4; outlet++) {
            BaggageHandling x = line(outlet, 2, 3, 4);
            x.run(5);
            x.takeOff(4);
            x.run(1);
            c.due(NAMES[outlet] + ": an empty diverting", x.count(4), 1);
            c.due(NAMES[outlet] + ": no record", x.recordLabel(5), N);
            c.due(NAMES[outlet] + ": nothing in it", sizeOf(x, outlet), 0);
            c.due(NAMES[outlet] + ": readyAt(5)", x.readyAt(5), 9);
            c.due(NAMES[outlet] + ": no bag came into a chute", x.count(7), 0);
            x.run(2);
            c.due(NAMES[outlet] + ": two bags miss it", x.count(3) * 10 + sizeOf(x, outlet), 20);
            x.run(1);
            c.due(NAMES[outlet] + ": the next one is taken", x.count(3) * 10 + sizeOf(x, outlet), 21);
        }
    }

    private void bagsWithoutRecords() {
        c.says("Section 5", "A bag without a record passes all outlets.");
        for (int outlet = 0; outlet < 4; outlet++) {
            BaggageHandling x = line(outlet, 2, 1, 1);
            x.run(5);
            x.slip(4);
            x.run(2);
            c.due(NAMES[outlet] + ": the bag is at the outlet", x.bagAt(5), 0);
            c.due(NAMES[outlet] + ": nothing in it", sizeOf(x, outlet), 0);
            x.run(1);
            c.due(NAMES[outlet] + ": the bag has passed", x.bagAt(6), 0);
            c.due(NAMES[outlet] + ": that is no miss", x.count(3), 0);
            c.due(NAMES[outlet] + ": readyAt(5) is that of its record", x.readyAt(5), 7);
        }
    }

    /** Bag 0 comes second into a queue, and bag 2 when the one before it has left and it is still there. */
    private void firstInFirstOut() {
        String setup = "ring 40;inlet 30;inlet 0;scanner 1;DEVICE;chute 39 room 9 switch 1;flight 7 chute 0 open 0 close 999;"
            + "flight 8 chute 0 open 60 close 999;flight 9 chute 0 open 80 close 999;";
        c.says("Section 6", "In step (b) a station that has bags in its queue works on the first one:");
        leaves(Check.loaded(setup.replace("DEVICE", "station 5 room 9 switch 1 time 9 exit 9")), 7001, 7001, 0, 19);
        c.says("Section 7", "In step (b) a screen that has bags in its queue works on the first one,");
        leaves(Check.loaded(setup.replace("DEVICE", "screen 5 room 9 switch 1 times 9 9 9 exit 9")), 7001, 7001, 15, 19);
        c.says("Section 8", "among several the one that came into the store first.");
        leaves(Check.loaded(setup.replace("DEVICE", "screen 2 room 9 switch 1 times 1 1 1 exit 3;store 5 room 9 switch 1 exit"
            + " 9")), 9001, 8001, 15, 58);
    }

    private void leaves(BaggageHandling x, int label, int labelOfTheFirst, int heads, int tickOfTheLast) {
        // From inlet 0 the way is ten ticks longer.
        x.checkIn(0, label, heads, 0, 0, 0);
        x.run(9);
        x.checkIn(1, labelOfTheFirst, heads, 0, 0, 0);
        Scene.runTo(x, tickOfTheLast);
        x.checkIn(1, label, heads, 0, 0, 0);
        StringBuilder order = new StringBuilder();
        while (x.tick() < 100 && order.length() < 3) {
            x.run(1);
            if (x.bagAt(9) >= 0) {
                order.append(x.bagAt(9));
            }
        }
        c.due("the order in which they come to the exit", order.toString(), "102");
    }

    // ---- section 6

    private void stationQueue() {
        c.says("Section 6", "A station has a queue of bags (with their records), at most its capacity, a working time t,");
        c.text("ring 10;station 1 room ^0 switch 1 time 1 exit 2;");
        c.text("ring 10;station 1 room ^21 switch 1 time 1 exit 2;");
        BaggageHandling x = line(3, 20, 1, 22);
        x.run(30);
        c.due("20 of 22 bags", x.stationSize(0), 20);
        c.due("two misses", x.count(3), 2);
        BaggageHandling y = line(3, 1, 1, 2);
        y.run(30);
        c.due("1 of 2 bags", y.stationSize(0), 1);
        c.due("a miss", y.count(3), 1);
    }

    private void stationExit() {
        c.says("Section 6", "and an exit, where any number of bags may wait.");
        BaggageHandling x = Check.loaded("ring 60;inlet 0;inlet 5;scanner 1;station 2 room 1 switch 1 time 1 exit 6;chute 59 room 1 switch 1;"
            + "flight 7 chute 0 open 0 close 999;");
        for (int i = 0; i < 25; i++) {
            x.checkIn(0, 7001, 0, 0, 0, 0);
            x.checkIn(1, 0, 0, 0, 0, 0);
            x.checkIn(1, 0, 0, 0, 0, 0);
        }
        x.run(30);
        c.due("25 bags wait behind a station with room 1", x.exitSize(6), 25);
        c.due("no misses", x.count(3), 0);
        x.run(22);
        c.due("the first one enters when the exit is free", x.bagAt(6), 0);
        c.due("exitSize(6)", x.exitSize(6), 24);
    }

    private void stationCounter() {
        c.says("Section 6", "In step (b) a station that has bags in its queue works on the first one: its work counter,"
            + " which is 0 when it begins with a bag, increases by 1.");
        BaggageHandling x = Check.loaded("ring 40;inlet 0;scanner 1;station 5 room 3 switch 1 time 4 exit 39;");
        Scene.bags(x, 3, 0);
        for (int tick = 6; tick <= 20; tick++) {
            Scene.runTo(x, tick);
            // The bags come in the ticks 6, 7 and 8; the station is empty before, so it begins in tick 7.
            int done = tick < 10 ? 0 : tick < 14 ? 1 : tick < 18 ? 2 : 3;
            c.due("set aside at tick " + tick, x.count(5), done);
            c.due("the first of them at tick " + tick, x.bagState(0), done >= 1 ? 8 : 6);
            c.due("the last of them at tick " + tick, x.bagState(2), done >= 3 ? 8 : tick < 8 ? 1 : 6);
        }
        x.checkIn(0, 0, 0, 0, 0, 0);
        x.run(9);
        c.due("the counter is 0 after a pause, too", x.bagState(3), 6);
        x.run(1);
        c.due("done", x.bagState(3), 8);
    }

    private void stationTime() {
        c.says("Section 6", "When the counter reaches t, the bag leaves the queue.");
        for (int time : new int[] {1, 2, 99}) {
            BaggageHandling x = Check.loaded("ring 40;inlet 0;scanner 1;station 5 room 3 switch 1 time " + time + " exit 39;");
            Scene.bag(x, 0);
            Scene.runTo(x, 5 + time);
            c.due("time " + time + ", one tick is left", x.stationSize(0), 1);
            x.run(1);
            c.due("time " + time + ", done", x.stationSize(0), 0);
        }
    }

    private void stationLabels() {
        c.says("Section 6", "If it has a proper label, the label of the record becomes that one, the passes become 0, and the"
            + " bag waits at the exit with this record.");
        String setup = "ring 20;inlet 0;scanner 1;station 5 room 3 switch 1 time 2 exit 9;chute 19 room 1 switch 1;"
            + "flight 7 chute 0 open 0 close CLOSE;flight 8 chute 0 open 50 close 60;";
        int[] closings = {9, 8, 7};
        int[] labels = {7001, 8001, 8001};
        for (int i = 0; i < 3; i++) {
            BaggageHandling x = Check.loaded(setup.replace("CLOSE", "" + closings[i]));
            x.checkIn(0, 7001, 1, 8001, 1, 0);
            x.run(7);
            c.due("it is worked on", x.bagState(0), 6);
            x.run(1);
            c.due("done in tick 8, flight 7 closes in tick " + closings[i], x.recordLabel(9), labels[i]);
            c.due("its passes", x.passes(9), 0);
            c.due("it is not cleared", x.isCleared(9), false);
            c.due("bagAt(9)", x.bagAt(9), 0);
        }
        BaggageHandling y = Scene.withBags("ring 20;inlet 0;scanner 1;screen 2 room 9 switch 1 times 1 1 1 exit 3;"
            + "station 5 room 3 switch 1 time 1 exit 9;chute 4 room 1 switch 1;flight 7 chute 0 open 0 close 99;passes 1;", 2, 7001);
        Scene.runTo(y, 27);
        c.due("after two passes it is in the station", y.bagState(1), 6);
        y.run(1);
        c.due("a cleared one stays cleared", y.isCleared(9), true);
        c.due("its passes", y.passes(9), 0);
        BaggageHandling z = Check.loaded(setup.replace("CLOSE", "99").replace("inlet 0;", "inlet 0;inlet 8;"));
        z.checkIn(0, 7001, 0, 0, 0, 0);
        z.run(6);
        z.checkIn(1, 0, 0, 0, 0, 0);
        z.run(2);
        c.due("it waits at the exit, which is blocked", z.bagState(0) * 10 + z.bagPlace(0), 79);
    }

    private void stationSetsAside() {
        c.says("Section 6", "Otherwise the bag is set aside: it stays at the station for good and does not count for the capacity.");
        BaggageHandling x = Check.loaded("ring 20;inlet 0;scanner 1;station 5 room 1 switch 1 time 1 exit 9;");
        for (int i = 0; i < 4; i++) {
            x.checkIn(0, 9001, 0, 0, 0, 0);
        }
        x.run(10);
        for (int bag = 0; bag < 4; bag++) {
            c.due("bagState(" + bag + ")", x.bagState(bag), 8);
            c.due("for good", x.forecastState(bag, 300), 8);
        }
        c.due("stationSize(0)", x.stationSize(0), 0);
        c.due("count(5)", x.count(5), 4);
        c.due("no misses", x.count(3), 0);
        c.due("none at the exit", x.exitSize(9), 0);
        c.due("none on the ring", Scene.map(x), ".".repeat(20));
    }

    // ---- section 7

    private void screenQueue() {
        c.says("Section 7", "A screen has a queue of bags (with their records), at most its capacity, times t1, t2 and t3 for the"
            + " levels 1 to 3,");
        c.text("ring 10;screen 1 room ^0 switch 1 times 1 1 1 exit 2;");
        c.text("ring 10;screen 1 room ^21 switch 1 times 1 1 1 exit 2;");
        BaggageHandling x = line(1, 20, 1, 22);
        x.run(30);
        c.due("20 of 22 bags", x.screenSize(0), 20);
        c.due("two misses", x.count(3), 2);
        BaggageHandling y = line(1, 1, 1, 2);
        y.run(30);
        c.due("1 of 2 bags", y.screenSize(0), 1);
        c.due("a miss", y.count(3), 1);
    }

    private void screenExit() {
        c.says("Section 7", "and an exit, where any number of bags may wait.");
        BaggageHandling x = Check.loaded("ring 60;inlet 0;inlet 5;scanner 1;screen 2 room 1 switch 1 times 1 1 1 exit 6;");
        for (int i = 0; i < 25; i++) {
            x.checkIn(0, 7001, 15, 0, 0, 0);
            x.checkIn(1, 0, 0, 0, 0, 0);
            x.checkIn(1, 0, 0, 0, 0, 0);
        }
        x.run(30);
        c.due("25 bags wait behind a screen with room 1", x.exitSize(6), 25);
        c.due("no misses", x.count(3), 0);
        x.run(22);
        c.due("the first one enters when the exit is free", x.bagAt(6), 0);
        c.due("exitSize(6)", x.exitSize(6), 24);
    }

    private void screenCounter() {
        c.says("Section 7", "In step (b) a screen that has bags in its queue works on the first one, which begins at level 1: its work counter,"
            + " which is 0 at the beginning of each level, increases by 1.");
        BaggageHandling x = Check.loaded("ring 40;inlet 0;scanner 1;screen 5 room 3 switch 1 times 2 3 4 exit 39;");
        x.checkIn(0, 7001, 15, 0, 0, 3);
        x.checkIn(0, 7001, 15, 0, 0, 1);
        x.checkIn(0, 7001, 15, 0, 0, 0);
        c.due("an empty screen", x.screenLevel(0), 0);
        // From tick 6 on: the first bag needs 2 + 3 + 4 ticks, the second one 2 + 3, the third one 2.
        int[] levels = {1, 1, 2, 2, 2, 3, 3, 3, 3, 1, 1, 2, 2, 2, 1, 1, 0, 0};
        for (int i = 0; i < levels.length; i++) {
            Scene.runTo(x, 6 + i);
            c.due("screenLevel(0) at tick " + (6 + i), x.screenLevel(0), levels[i]);
            c.due("bagState(0) at tick " + (6 + i), x.bagState(0), i < 9 ? 4 : 9);
            c.due("bagState(1) at tick " + (6 + i), x.bagState(1) == 4, i >= 1 && i < 14);
            c.due("bagState(2) at tick " + (6 + i), x.bagState(2) == 4, i >= 2 && i < 16);
        }
    }

    private void screenClears() {
        c.says("Section 7", "When the counter reaches the time of the level, the level is decided: a bag with a threat level less than the level"
            + " is cleared: it leaves the queue, its record is marked as cleared, and it waits at the exit with this record.");
        int[][] times = {{1, 1, 1}, {99, 1, 1}, {1, 99, 1}, {1, 1, 99}, {2, 3, 4}};
        for (int[] t : times) {
            int last = 6;
            for (int threat = 0; threat < 3; threat++) {
                last += t[threat];
                BaggageHandling x = Check.loaded("ring 40;inlet 0;scanner 1;screen 5 room 3 switch 1 times"
                    + " " + t[0] + " " + t[1] + " " + t[2] + " exit 9;");
                x.checkIn(0, 7001, 15, 0, 0, threat);
                Scene.runTo(x, last - 1);
                c.due("threat " + threat + " is screened at level", x.screenLevel(0), threat + 1);
                c.due("threat " + threat + " is in the queue", x.screenSize(0), 1);
                x.run(1);
                c.due("threat " + threat + " has left the queue", x.screenSize(0), 0);
                c.due("threat " + threat + " is at the exit", x.bagAt(9), 0);
                c.due("threat " + threat + ": its label", x.recordLabel(9), 7001);
                c.due("threat " + threat + ": its passes", x.passes(9), 1);
                c.due("threat " + threat + " is cleared", x.isCleared(9), true);
            }
        }
        BaggageHandling y = Scene.withBags("ring 20;inlet 0;inlet 8;scanner 1;screen 5 room 3 switch 1 times 2 1 1 exit 9;", 1, 7001);
        y.run(6);
        y.checkIn(1, 0, 0, 0, 0, 0);
        y.run(2);
        c.due("it waits at the exit, which is blocked", y.bagState(0) * 10 + y.bagPlace(0), 79);
    }

    private void screenGoesOn() {
        c.says("Section 7", "Otherwise the bag goes on to the next level.");
        for (int threat = 0; threat <= 3; threat++) {
            BaggageHandling x = Check.loaded("ring 40;inlet 0;scanner 1;screen 5 room 3 switch 1 times 1 1 9 exit 9;");
            x.checkIn(0, 7001, 15, 0, 0, threat);
            x.run(7);
            c.due("threat " + threat + " after level 1", x.screenLevel(0), threat < 1 ? 0 : 2);
            x.run(1);
            c.due("threat " + threat + " after level 2", x.screenLevel(0), threat < 2 ? 0 : 3);
        }
    }

    private void screenSeizes() {
        c.says("Section 7", "A bag that is not cleared at level 3 leaves the queue and is seized.");
        for (int threat = 2; threat <= 3; threat++) {
            BaggageHandling x = Check.loaded("ring 40;inlet 0;scanner 1;screen 5 room 3 switch 1 times 1 2 3 exit 9;");
            x.checkIn(0, 7001, 15, 0, 0, threat);
            x.run(11);
            c.due("threat " + threat + " is screened", x.screenSize(0), 1);
            x.run(1);
            c.due("threat " + threat + " has left the queue", x.screenSize(0), 0);
            c.due("threat " + threat + " is seized", x.bagState(0) == 9, threat == 3);
            c.due("count(6)", x.count(6), threat - 2);
            c.due("map", Scene.map(x).charAt(9), threat == 3 ? '.' : 'd');
            c.due("later", x.forecastState(0, 300) == 9, threat == 3);
        }
    }

    // ---- section 8

    private void storeRoom() {
        c.says("Section 8", "A store holds bags (with their records), at most its capacity,");
        c.text("ring 10;store 1 room ^0 switch 1 exit 2;");
        c.text("ring 10;store 1 room ^21 switch 1 exit 2;");
        BaggageHandling x = line(2, 20, 1, 22);
        x.run(30);
        c.due("20 of 22 bags", x.storeSize(0), 20);
        c.due("two misses", x.count(3), 2);
        BaggageHandling y = line(2, 1, 1, 2);
        y.run(30);
        c.due("1 of 2 bags", y.storeSize(0), 1);
        c.due("a miss", y.count(3), 1);
    }

    /** Twenty bags of flight 7 leave the store in the ticks 50 to 69, then five of flight 8 in the ticks 70 to 74. */
    private void storeExit() {
        c.says("Section 8", "and has an exit, where any number of bags may wait.");
        BaggageHandling x = Check.loaded("ring 60;inlet 0;inlet 8;scanner 1;screen 2 room 20 switch 1 times 1 1 1 exit 3;"
            + "store 5 room 20 switch 1 exit 9;chute 59 room 20 switch 1;flight 7 chute 0 open 50 close 999;"
            + "flight 8 chute 0 open 70 close 999;");
        Scene.bags(x, 20, 7001);
        x.run(47);
        c.due("20 bags in the store", x.storeSize(0), 20);
        Scene.bags(x, 5, 8001);
        for (int i = 0; i < 30; i++) {
            x.checkIn(1, 0, 0, 0, 0, 0);
        }
        x.run(28);
        c.due("25 bags wait at the exit", x.exitSize(9), 25);
        c.due("no bags in the store", x.storeSize(0), 0);
        x.run(4);
        c.due("the first one enters when the exit is free", x.bagAt(9), 0);
        c.due("exitSize(9)", x.exitSize(9), 24);
    }

    private static final String STORE = "ring 40;inlet 0;scanner 1;screen 2 room 20 switch 1 times 1 1 1 exit 3;"
        + "store 5 room 20 switch 1 exit 9;chute 39 room 20 switch 1;";

    private void storeReleasesOne() {
        c.says("Section 8", "In step (b) a store releases at most one bag:");
        BaggageHandling x = Scene.withBags(STORE + "flight 7 chute 0 open 30 close 999;", 3, 7001);
        x.run(29);
        c.due("before the opening tick", x.storeSize(0), 3);
        for (int left = 2; left >= 0; left--) {
            x.run(1);
            c.due("one in a tick", x.storeSize(0), left);
        }
        x.run(1);
        c.due("an empty store releases none", x.storeSize(0) + x.exitSize(9), 0);
    }

    private void storeReleasesOpenFlights() {
        c.says("Section 8", "of the bags in it whose records' labels belong to flights that are not early,");
        BaggageHandling x = Check.loaded(STORE + "flight 6 chute 0 open 30 close 31;flight 7 chute 0 open 30 close 31;"
            + "flight 8 chute 0 open 40 close 41;");
        Scene.bag(x, 8001);
        Scene.bag(x, 7001);
        Scene.bag(x, 6001);
        x.run(29);
        c.due("all are early", x.storeSize(0), 3);
        x.run(1);
        c.due("an open one leaves, though an early one came before it", x.bagAt(9), 1);
        x.run(1);
        c.due("a closed one leaves", x.bagAt(9), 2);
        x.run(8);
        c.due("an early one stays", x.bagState(0), 5);
        x.run(1);
        c.due("until its flight opens", x.bagAt(9), 0);
        // The label of the record counts, not what the bag has as its proper label.
        BaggageHandling y = Check.loaded(STORE + "flight 7 chute 0 open 30 close 99;flight 8 chute 0 open 0 close 99;");
        y.checkIn(0, 8001, 0, 7001, 15, 0);
        y.run(29);
        c.due("the record is early", y.bagState(0), 5);
        y.run(1);
        c.due("the record is not early any more", y.bagAt(9), 0);
    }

    private void storeReleasesTheFirstToClose() {
        c.says("Section 8", "In step (b) a store releases at most one bag: of the bags in it whose records' labels belong to"
            + " flights that are not early,"
            + " the one whose flight has the smallest closing tick, among several the one that came into the store first.");
        BaggageHandling x = Check.loaded(STORE + "flight 4 chute 0 open 30 close 100;flight 5 chute 0 open 30 close 99;"
            + "flight 6 chute 0 open 29 close 99;flight 7 chute 0 open 33 close 98;");
        for (int label : new int[] {4001, 5001, 6001, 7001, 5002, 4002}) {
            Scene.bag(x, label);
        }
        x.run(28);
        c.due("all six are in the store", x.storeSize(0), 6);
        // Flight 6 opens alone; then 5001 closes before 4001, and 5002 came later; flight 7 opens in tick 33.
        for (int bag : new int[] {2, 1, 4, 0, 3, 5}) {
            x.run(1);
            c.due("released in tick " + x.tick(), x.bagAt(9), bag);
        }
        BaggageHandling y = Check.loaded(STORE + "flight 5 chute 0 open 30 close 99;flight 6 chute 0 open 30 close 99;");
        for (int label : new int[] {6001, 5001, 6002, 5002}) {
            Scene.bag(y, label);
        }
        y.run(29);
        for (int bag = 0; bag < 4; bag++) {
            y.run(1);
            c.due("the same closing tick: the one that came first", y.bagAt(9), bag);
        }
    }

    private void storeKeepsRecords() {
        c.says("Section 8", "A released bag waits at the exit with its record.");
        BaggageHandling x = Scene.withBags(STORE.replace("inlet 0;", "inlet 0;inlet 8;") + "flight 7 chute 0 open 30 close 99;", 1, 7001);
        x.run(28);
        x.checkIn(1, 0, 0, 0, 0, 0);
        x.run(2);
        c.due("it waits at the exit, which is blocked", x.bagState(0) * 10 + x.bagPlace(0), 79);
        c.due("exitSize(9)", x.exitSize(9), 1);
        x.run(1);
        c.due("bagAt(9)", x.bagAt(9), 0);
        c.due("its label", x.recordLabel(9), 7001);
        c.due("its passes", x.passes(9), 1);
        c.due("its mark", x.isCleared(9), true);
    }

    // ---- section 9

    private void chuteRoom() {
        c.says("Section 9", "A chute holds bags, at most its capacity,");
        c.text("ring 10;chute 1 room ^0 switch 1;");
        c.text("ring 10;chute 1 room ^21 switch 1;");
        BaggageHandling x = line(0, 20, 1, 22);
        x.run(30);
        c.due("20 of 22 bags", x.chuteSize(0), 20);
        c.due("two misses", x.count(3), 2);
        BaggageHandling y = line(0, 1, 1, 2);
        y.run(30);
        c.due("1 of 2 bags", y.chuteSize(0), 1);
        c.due("a miss", y.count(3), 1);
    }

    private void chuteUntilLoaded() {
        c.says("Section 9", "A chute holds bags, at most its capacity, until they are loaded by a call.");
        BaggageHandling x = line(0, 1, 1, 2);
        x.run(46);
        c.due("full for ever", x.chuteSize(0) * 10 + x.count(3), 11);
        c.due("it would be full in the next round", x.forecastDelivered(2), 0);
        c.due("loadChute(0)", x.loadChute(0), 1);
        c.due("chuteSize(0)", x.chuteSize(0), 0);
        x.run(1);
        c.due("there is room in the next round", x.chuteSize(0), 1);
        c.due("the second bag", x.bagState(1), 2);
    }

    /** A bag comes into a chute with the record of another one, which is taken off the ring. */
    private static BaggageHandling swapped(int first, int second) {
        BaggageHandling x = Check.loaded("ring 20;inlet 0;scanner 2;screen 4 room 2 switch 1 times 1 1 1 exit 5;"
            + "chute 8 room 5 switch 1;chute 10 room 5 switch 1;flight 7 chute 0 open 0 close 12;flight 8 chute 1 open 0 close 90;"
            + "flight 9 chute 1 open 80 close 90;");
        x.checkIn(0, first, 15, second, 0, 0);
        x.checkIn(0, 8001, 15, 0, 0, 0);
        x.run(7);
        x.takeOff(5);
        x.slip(6);
        x.run(5);
        return x;
    }

    private void misrouted() {
        c.says("Section 9", "A bag in a chute is misrouted if neither of its labels belongs to a flight with this chute.");
        int[][] labels = {{7001, 0, 1}, {6001, 0, 1}, {6001, 7001, 1}, {7001, 8001, 0}, {8002, 7001, 0}, {8002, 8001, 0}, {9001, 0, 0}, {6001, 9001, 0}};
        for (int[] of : labels) {
            BaggageHandling x = swapped(of[0], of[1]);
            String what = "labels " + of[0] + " and " + of[1];
            c.due(what + ": in chute 1", x.bagState(0) * 10 + x.bagPlace(0), 21);
            c.due(what + ": misrouted(1)", x.misrouted(1), of[2]);
            c.due(what + ": misrouted(0)", x.misrouted(0), 0);
            x.run(100);
            c.due(what + ": misrouted(1) when the flights are closed", x.misrouted(1), of[2]);
        }
    }

    private void deletedRecords() {
        c.says("Section 9", "The record of a bag that is in a chute, set aside or seized is deleted.");
        BaggageHandling x = Check.plantAfter(15);
        c.due("in a chute", x.bagState(0), 2);
        c.due("no record on the ring", Scene.map(x), ".".repeat(20));
        x.loadChute(0);
        x.run(100);
        c.due("nor later", Scene.map(x), ".".repeat(20));
        BaggageHandling y = Check.loaded(Check.PLANT);
        y.checkIn(0, 6001, 0, 0, 0, 0);
        y.checkIn(0, 7001, 15, 0, 0, 3);
        y.run(20);
        c.due("set aside and seized", y.bagState(0) * 10 + y.bagState(1), 89);
        c.due("no record on the ring", Scene.map(y), ".".repeat(20));
        y.run(100);
        c.due("nor later", Scene.map(y), ".".repeat(20));
        c.due("no record came to an outlet or scanner", y.count(1) + y.count(4), 0);
    }
}
