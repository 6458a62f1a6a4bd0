/** The boundary cases of the document's first words and of its sections 1 to 4. */
final class RingBoundaries {
    private static final int I = Scene.I;
    private static final int N = Scene.N;
    private final Check c;

    private RingBoundaries(Check check) {
        c = check;
    }

    static void all(Check check) {
        RingBoundaries b = new RingBoundaries(check);
        b.lastCall();
        b.positions();
        b.bagsAndRecords();
        b.oneDeviceAtAPosition();
        b.numbersOfDevices();
        b.firstTick();
        b.numbersOfBags();
        b.labels();
        b.heads();
        b.threats();
        b.flightNumbersOfLabels();
        b.flightValues();
        b.flightStates();
        b.tenFlights();
        b.firstLabelIsProper();
        b.secondLabelIsProper();
        b.noLabelIsProper();
        b.records();
        b.noDestination();
        b.stationByPasses();
        b.stationByLabel();
        b.screen();
        b.stationByFlight();
        b.store();
        b.chute();
        b.nextTick();
        b.ringMoves();
        b.devicesWorkFirst();
        b.bothOfASortWork();
        b.positionsAhead();
        b.positionsBehind();
        b.exitsAreTreatedAsPositions();
    }

    // ---- the first words

    private void lastCall() {
        c.says("What it is", "An object is used for at most 512 calls after it has been made; what later calls answer is free.");
        BaggageHandling x = Check.plantAfter(0);
        int made = (Check.PLANT.length() + 19) / 20 + 3;
        for (int call = made + 1; call < 512; call++) {
            x.run(1);
        }
        c.due("call 512", x.tick(), 511 - made);
        BaggageHandling y = Check.plantAfter(0);
        for (int call = made + 1; call < 512; call++) {
            y.run(1);
        }
        c.due("call 512", y.deliveredAt(0), 15);
    }

    // ---- section 1

    private void positions() {
        c.says("Section 1", "The ring has n positions, 0 to n - 1 (n is 10 to 60).");
        c.text("ring ^9;");
        c.text("ring ^61;");
        c.text("ring ^0;");
        for (int n : new int[] {10, 11, 59, 60}) {
            BaggageHandling x = Check.loaded("ring " + n + ";");
            c.due("positions() of ring " + n, x.positions(), n);
            c.due("position -1 of " + n, x.deviceAt(-1), I);
            c.due("position 0 of " + n, x.deviceAt(0), 0);
            c.due("the last position of " + n, x.deviceAt(n - 1), 0);
            c.due("position n of " + n, x.deviceAt(n), I);
        }
    }

    private void bagsAndRecords() {
        c.says("Section 1", "At any time there may be a bag and a record at a position; they are independent of one another.");
        BaggageHandling x = Scene.withBags("ring 10;inlet 4;", 1, 7001);
        x.run(1);
        c.due("bagAt of both", x.bagAt(4), 0);
        c.due("recordLabel of both", x.recordLabel(4), 0);
        c.due("bagAt of neither", x.bagAt(5), N);
        c.due("recordLabel of neither", x.recordLabel(5), N);
        x.slip(4);
        c.due("bagAt of a bag alone", x.bagAt(3), 0);
        c.due("recordLabel of a bag alone", x.recordLabel(3), N);
        c.due("bagAt of a record alone", x.bagAt(4), N);
        c.due("recordLabel of a record alone", x.recordLabel(4), 0);
        x.run(1);
        c.due("each goes its way", Scene.map(x), "....xo....");
    }

    private void oneDeviceAtAPosition() {
        c.says("Section 1", "there is at most one device at a position.");
        c.text("ring 10;inlet 3;inlet ^3;");
        c.text("ring 10;inlet 3;scanner ^3;");
        c.text("ring 10;inlet 3;scanner 4;");
    }

    private void numbersOfDevices() {
        c.says("Section 1", "Devices of each sort are numbered from 0 in the order of the setup text.");
        BaggageHandling x = Check.loaded("ring 30;inlet 20;inlet 0;scanner 1;screen 12 room 5 switch 1 times 1 1 1 exit 13;"
            + "screen 3 room 5 switch 1 times 2 2 2 exit 4;station 14 room 5 switch 1 time 1 exit 15;"
            + "station 5 room 5 switch 1 time 2 exit 6;store 16 room 5 switch 1 exit 17;store 7 room 5 switch 1 exit 8;"
            + "chute 25 room 5 switch 1;chute 10 room 5 switch 1;flight 7 chute 1 open 11 close 99;flight 8 chute 0 open 0 close 99;");
        x.checkIn(1, 7001, 15, 0, 0, 0);
        x.checkIn(1, 0, 0, 0, 0, 0);
        x.checkIn(1, 8001, 15, 0, 0, 0);
        x.checkIn(0, 0, 0, 0, 0, 0);
        x.run(1);
        c.due("inlet 1 is at position 0", x.bagAt(0), 0);
        c.due("inlet 0 is at position 20", x.bagAt(20), 3);
        x.run(3);
        c.due("the screen at position 3", x.bagState(0) * 10 + x.bagPlace(0), 41);
        x.run(3);
        c.due("the station at position 5", x.bagState(1) * 10 + x.bagPlace(1), 61);
        x.run(3);
        c.due("the store at position 7", x.bagState(0) * 10 + x.bagPlace(0), 51);
        x.run(3);
        c.due("the chute at position 10", x.bagState(0) * 10 + x.bagPlace(0), 21);
        c.due("flight 0 is the one of 7", x.delivered(0), 1);
        x.run(20);
        c.due("the chute at position 25", x.bagState(2) * 10 + x.bagPlace(2), 20);
    }

    private void firstTick() {
        c.says("Section 1", "The present tick is 0 initially.");
        c.due("tick() of a new object", new BaggageHandling().tick(), 0);
        c.due("tick() after a load", Check.loaded(Check.PLANT).tick(), 0);
    }

    // ---- section 2

    private void numbersOfBags() {
        c.says("Section 2", "Bags are numbered from 0 in the order in which they are checked in; there are at most 100.");
        BaggageHandling x = Check.loaded("ring 10;inlet 0;inlet 5;");
        for (int i = 0; i < 100; i++) {
            c.due("bag " + i, x.checkIn(i % 2, 7001, 15, 0, 0, 0), i);
        }
        c.due("the 101st bag", x.checkIn(0, 7001, 15, 0, 0, 0), N);
        c.due("the 101st bag at the other inlet", x.checkIn(1, 7001, 15, 0, 0, 0), N);
        c.due("bags()", x.bags(), 100);
        c.due("bag 99", x.bagState(99), 0);
        c.due("bag 100", x.bagState(100), I);
    }

    private void labels() {
        c.says("Section 2", "A bag has two labels, each 0 (no label) or a label number from 1000 to 999999, and for each of them"
            + " a set of scanner heads (0 to 3) that can see it, written as a bit mask.");
        BaggageHandling x = Check.loaded("ring 10;inlet 0;");
        int[] wrong = {Integer.MIN_VALUE, -1000, -1, 1, 999, 1000000, Integer.MAX_VALUE};
        for (int label : wrong) {
            c.due("first label " + label, x.checkIn(0, label, 1, 0, 0, 0), I);
            c.due("second label " + label, x.checkIn(0, 0, 0, label, 1, 0), I);
        }
        int[] good = {0, 1000, 1001, 999998, 999999};
        for (int i = 0; i < good.length; i++) {
            c.due("first label " + good[i], x.checkIn(0, good[i], 1, 0, 0, 0), 2 * i);
            c.due("second label " + good[i], x.checkIn(0, 0, 0, good[i], 1, 0), 2 * i + 1);
        }
    }

    /** Only the head of a number works: it sees what has its bit, and nothing else. */
    private void heads() {
        c.says("Section 2", "a set of scanner heads (0 to 3) that can see it, written as a bit mask.");
        for (int head = 0; head < 4; head++) {
            BaggageHandling x = Check.loaded("ring 20;inlet 0;scanner 1;");
            for (int other = 0; other < 4; other++) {
                x.setHead(other, other == head);
            }
            int bit = 1 << head;
            x.checkIn(0, 7001, bit, 0, 0, 0);
            x.checkIn(0, 7002, 15 - bit, 0, 0, 0);
            x.checkIn(0, 0, 0, 7003, bit, 0);
            x.checkIn(0, 0, 0, 7004, 15 - bit, 0);
            x.run(5);
            c.due("first label, seen by head " + head, x.recordLabel(4), 7001);
            c.due("first label, seen by the others than " + head, x.recordLabel(3), 0);
            c.due("second label, seen by head " + head, x.recordLabel(2), 7003);
            c.due("second label, seen by the others than " + head, x.recordLabel(1), 0);
        }
    }

    private void threats() {
        c.says("Section 2", "A bag has a threat level from 0 to 3.");
        BaggageHandling x = Check.loaded("ring 10;inlet 0;");
        c.due("threat -1", x.checkIn(0, 7001, 15, 0, 0, -1), I);
        c.due("threat 4", x.checkIn(0, 7001, 15, 0, 0, 4), I);
        for (int threat = 0; threat <= 3; threat++) {
            c.due("threat " + threat, x.checkIn(0, 7001, 15, 0, 0, threat), threat);
        }
    }

    private void flightNumbersOfLabels() {
        c.says("Section 2", "The flight number of a label is the label number divided by 1000, rounded down.");
        BaggageHandling x = Check.loaded("ring 10;inlet 0;chute 1 room 1 switch 1;flight 1 chute 0 open 0 close 9;"
            + "flight 7 chute 0 open 0 close 9;flight 999 chute 0 open 0 close 9;");
        int[] known = {1000, 1001, 1999, 7000, 7500, 7999, 999000, 999999};
        int[] unknown = {2000, 6999, 8000, 70000, 77000, 998999, 10000};
        for (int label : known) {
            c.due("properLabel of " + label, x.properLabel(Scene.bag(x, label)), label);
        }
        for (int label : unknown) {
            c.due("properLabel of " + label, x.properLabel(Scene.bag(x, label)), N);
        }
    }

    private void flightValues() {
        c.says("Section 2", "A flight has a number from 1 to 999, a chute, an opening tick and a closing tick greater than the opening tick.");
        String chute = "ring 10;chute 1 room 1 switch 1;";
        c.text(chute + "flight ^0 chute 0 open 3 close 4;");
        c.text(chute + "flight 1 chute 0 open 3 close 4;");
        c.text(chute + "flight 999 chute 0 open 3 close 4;");
        c.text(chute + "flight ^1000 chute 0 open 3 close 4;");
        c.text(chute + "flight 1 chute 0 open 3 close ^3;");
        c.text(chute + "flight 1 chute 0 open 3 close ^2;");
    }

    private void flightStates() {
        c.says("Section 2", "A flight is early before its opening tick, closed from its closing tick on, and open between (opening"
            + " tick included).");
        BaggageHandling x = Check.loaded("ring 10;chute 1 room 1 switch 1;flight 1 chute 0 open 5 close 8;"
            + "flight 2 chute 0 open 0 close 1;flight 3 chute 0 open 7 close 8;");
        int[][] states = {{0, 0, 0, 0, 0, 1, 1, 1, 2, 2}, {1, 2, 2, 2, 2, 2, 2, 2, 2, 2}, {0, 0, 0, 0, 0, 0, 0, 1, 2, 2}};
        for (int tick = 0; tick < 10; tick++) {
            for (int flight = 0; flight < 3; flight++) {
                c.due("flightState(" + flight + ") at tick " + tick, x.flightState(flight), states[flight][tick]);
            }
            x.run(1);
        }
    }

    private void tenFlights() {
        c.says("Section 2", "There are at most 10 flights.");
        StringBuilder s = new StringBuilder("ring 10;chute 1 room 1 switch 1;");
        for (int i = 1; i <= 10; i++) {
            s.append("flight " + i + " chute 0 open 0 close 9;");
        }
        BaggageHandling x = Check.loaded(s.toString());
        c.due("flights()", x.flights(), 10);
        c.due("flightNumber(9)", x.flightNumber(9), 10);
        c.due("flightNumber(10)", x.flightNumber(10), I);
        BaggageHandling y = Check.loaded(s.toString().replace("ring 10;", "ring 10;inlet 0;"));
        c.due("a label of the tenth flight", y.properLabel(Scene.bag(y, 10001)), 10001);
        c.due("a label of no flight", y.properLabel(Scene.bag(y, 11001)), N);
        c.text(s + "^flight 11 chute 0 open 0 close 9;");
    }

    private static final String TWO_FLIGHTS = "ring 10;inlet 0;chute 1 room 1 switch 1;"
        + "flight 7 chute 0 open 5 close 10;flight 8 chute 0 open 15 close 20;";

    private void firstLabelIsProper() {
        c.says("Section 2", "The proper label of a bag at some tick is its first label if that belongs to a flight of the"
            + " setup that is not closed;");
        BaggageHandling x = Check.loaded(TWO_FLIGHTS);
        x.checkIn(0, 7001, 0, 8001, 15, 0);
        c.due("early, and no head sees it", x.properLabel(0), 7001);
        x.run(5);
        c.due("at the opening tick", x.properLabel(0), 7001);
        x.run(4);
        c.due("before the closing tick", x.properLabel(0), 7001);
        x.run(1);
        c.due("at the closing tick", x.properLabel(0), 8001);
    }

    private void secondLabelIsProper() {
        c.says("Section 2", "otherwise its second label if that belongs to such a flight;");
        BaggageHandling x = Check.loaded(TWO_FLIGHTS);
        x.checkIn(0, 0, 0, 7001, 0, 0);
        x.checkIn(0, 9001, 15, 7001, 0, 0);
        c.due("without a first label", x.properLabel(0), 7001);
        c.due("with a first label of no flight", x.properLabel(1), 7001);
        x.run(9);
        c.due("before the closing tick", x.properLabel(0), 7001);
        x.run(1);
        c.due("at the closing tick", x.properLabel(0), N);
    }

    private void noLabelIsProper() {
        c.says("Section 2", "otherwise there is none.");
        BaggageHandling x = Check.loaded(TWO_FLIGHTS);
        x.checkIn(0, 0, 15, 0, 15, 0);
        x.checkIn(0, 9001, 15, 6999, 15, 0);
        x.checkIn(0, 8001, 15, 7001, 15, 0);
        c.due("no labels", x.properLabel(0), N);
        c.due("labels of no flight", x.properLabel(1), N);
        x.run(19);
        c.due("one flight is not closed", x.properLabel(2), 8001);
        x.run(1);
        c.due("both are closed", x.properLabel(2), N);
    }

    // ---- section 3

    private void records() {
        c.says("Section 3", "A record has a label (0 if it is unread, -1 if it is ambiguous, or a label number), the mark cleared"
            + " or not cleared, and the number of passes (how many times a scanner treated it).");
        BaggageHandling x = Check.loaded("ring 10;inlet 0;scanner 1;");
        Scene.bag(x, 7001);
        x.checkIn(0, 7001, 15, 8001, 15, 0);
        x.run(1);
        c.due("unread", x.recordLabel(0), 0);
        c.due("no passes", x.passes(0), 0);
        c.due("not cleared", x.isCleared(0), false);
        x.run(2);
        c.due("a label number", x.recordLabel(2), 7001);
        c.due("ambiguous", x.recordLabel(1), 1);
        c.due("one pass", x.passes(2), 1);
        x.run(300);
        c.due("a pass in each round, with no end", x.passes(2), 31);
    }

    private void destination(BaggageHandling x, int tick, int position, int want, String what) {
        Scene.runTo(x, tick);
        c.due(what, x.destination(position), want);
    }

    private void noDestination() {
        c.says("Section 3", "The destination of a record at the present tick is the first that applies: none, if it has no passes"
            + " and its label is 0;");
        BaggageHandling x = Check.loaded("ring 12;inlet 0;scanner 1;station 3 room 3 switch 1 time 1 exit 6;"
            + "chute 10 room 1 switch 1;flight 7 chute 0 open 0 close 99;");
        x.checkIn(0, 7001, 0, 0, 0, 0);
        destination(x, 1, 0, 0, "no passes, label 0");
        destination(x, 2, 1, 6, "one pass, label 0");
        destination(x, 5, 6, 4, "no passes, label 7001");
    }

    private void stationByPasses() {
        c.says("Section 3", "a station, if its passes are greater than the pass limit (1 to 9)");
        for (int limit = 1; limit <= 9; limit++) {
            BaggageHandling x = Scene.withBags("ring 10;inlet 0;scanner 1;passes " + limit + ";", 1, 7001);
            destination(x, 2 + 10 * (limit - 1), 1, 4, "as many passes as the limit " + limit);
            destination(x, 2 + 10 * limit, 1, 6, "one pass more than " + limit);
        }
        c.text("ring 10;passes ^0;");
        c.text("ring 10;passes ^10;");
        BaggageHandling full = Scene.withBags("ring 12;inlet 0;scanner 1;screen 2 room 1 switch 1 times 1 1 1 exit 3;"
            + "chute 11 room 1 switch 1;flight 7 chute 0 open 0 close 99;passes 1;", 2, 7001);
        destination(full, 14, 0, 10, "cleared, and the chute was full");
        destination(full, 15, 1, 6, "cleared, but with too many passes");
    }

    private void stationByLabel() {
        c.says("Section 3", "a station, if its passes are greater than the pass limit (1 to 9) or its label is 0 or -1;");
        BaggageHandling x = Check.loaded("ring 10;inlet 0;scanner 1;passes 9;");
        x.checkIn(0, 0, 15, 0, 15, 0);
        x.checkIn(0, 7001, 15, 8001, 15, 0);
        destination(x, 2, 1, 6, "label 0 with a pass");
        destination(x, 3, 1, 6, "label -1");
    }

    private static final String SCREENED = "ring 20;inlet 0;scanner 1;screen 2 room 9 switch 1 times 1 1 1 exit 3;";

    private void screen() {
        c.says("Section 3", "a screen, if it is not cleared;");
        BaggageHandling x = Check.loaded(SCREENED + "chute 19 room 1 switch 1;flight 6 chute 0 open 0 close 1;"
            + "flight 7 chute 0 open 0 close 99;flight 8 chute 0 open 90 close 99;");
        for (int label : new int[] {5001, 6001, 7001, 8001}) {
            Scene.bag(x, label);
        }
        destination(x, 2, 1, 4, "of no flight");
        destination(x, 3, 1, 4, "of a closed flight");
        destination(x, 4, 1, 4, "of an open flight");
        destination(x, 5, 1, 4, "of an early flight");
        c.due("cleared, it is no screen", x.destination(4), 6);
    }

    private void stationByFlight() {
        c.says("Section 3", "a station, if its label belongs to no flight of the setup or to a closed one;");
        BaggageHandling x = Check.loaded(SCREENED + "chute 19 room 1 switch 1;flight 7 chute 0 open 0 close 8;");
        Scene.bag(x, 8001);
        Scene.bag(x, 7001);
        destination(x, 4, 3, 6, "of no flight");
        destination(x, 7, 5, 10, "before the closing tick");
        destination(x, 8, 6, 6, "at the closing tick");
    }

    private void store() {
        c.says("Section 3", "a store, if the flight is early;");
        BaggageHandling x = Scene.withBags(SCREENED + "chute 19 room 1 switch 1;flight 7 chute 0 open 8 close 9;", 1, 7001);
        destination(x, 7, 6, 5, "before the opening tick");
        destination(x, 8, 7, 10, "at the opening tick");
        destination(x, 9, 8, 6, "at the closing tick");
    }

    private void chute() {
        c.says("Section 3", "the chute of the flight.");
        StringBuilder s = new StringBuilder(SCREENED);
        for (int p = 14; p < 20; p++) {
            s.append("chute " + p + " room 1 switch 1;");
        }
        for (int chute = 0; chute < 6; chute++) {
            BaggageHandling x = Scene.withBags(s + "flight 7 chute " + chute + " open 0 close 99;", 1, 7001);
            destination(x, 4, 3, 10 + chute, "chute " + chute);
        }
    }

    // ---- section 4

    private void nextTick() {
        c.says("Section 4", "(a) The present tick increases by 1.");
        BaggageHandling x = new BaggageHandling();
        x.run(1);
        c.due("tick() after one tick", x.tick(), 1);
        x.run(300);
        c.due("tick() after 300 more", x.tick(), 301);
    }

    private void ringMoves() {
        c.says("Section 4", "The ring moves: bags and records at position p come to position p + 1, and those at position n - 1 to position 0.");
        for (int n : new int[] {10, 37, 60}) {
            int last = n - 1;
            BaggageHandling x = Scene.withBags("ring " + n + ";inlet " + last + ";", 1, 7001);
            x.run(1);
            c.due("bag at n - 1 of " + n, x.bagAt(last), 0);
            x.run(1);
            c.due("bag at 0 of " + n, x.bagAt(0) + x.bagPlace(0), 0);
            c.due("record at 0 of " + n, x.recordLabel(0), 0);
            c.due("nothing at n - 1 of " + n, x.recordLabel(last) + x.bagAt(last), 2 * N);
            x.run(1);
            c.due("bag at 1 of " + n, x.bagAt(1), 0);
            x.slip(1);
            Scene.runTo(x, n + 1);
            c.due("a record alone at n - 1 of " + n, x.recordLabel(last) * 100 + x.bagAt(last - 1), 0);
            x.run(1);
            c.due("a record alone at 0 of " + n, x.recordLabel(0), 0);
            c.due("a bag alone at n - 1 of " + n, x.bagAt(last), 0);
            x.run(1);
            c.due("a bag alone at 0 of " + n, x.bagAt(0), 0);
            c.due("no record with it", x.recordLabel(0), N);
        }
    }

    private void devicesWorkFirst() {
        c.says("Section 4", "(b) The stations, then the screens, then the stores work, each sort in ascending order, as described"
            + " in sections 6 to 8.");
        BaggageHandling x = Scene.withBags("ring 10;inlet 0;scanner 1;screen 2 room 1 switch 1 times 1 1 1 exit 3;", 2, 7001);
        x.run(3);
        c.due("the first bag came in and is not worked on in the same tick", x.screenSize(0) * 10 + x.bagState(0), 14);
        x.run(1);
        c.due("it leaves and is at the exit in the next tick", x.bagState(0) * 10 + x.bagPlace(0), 13);
        c.due("so there is room for the second one", x.bagState(1), 4);
        c.due("which does not miss it", x.count(3), 0);
        BaggageHandling y = Check.loaded("ring 10;inlet 0;scanner 1;station 2 room 1 switch 1 time 1 exit 3;chute 9 room 1 switch 1;"
            + "flight 7 chute 0 open 0 close 4;flight 8 chute 0 open 0 close 9;");
        y.checkIn(0, 7001, 0, 8001, 0, 0);
        y.run(4);
        c.due("the station works at the tick that has begun", y.recordLabel(3), 8001);
        BaggageHandling z = Scene.withBags(SCREENED + "store 5 room 1 switch 1 exit 6;chute 9 room 1 switch 1;"
            + "flight 7 chute 0 open 7 close 99;", 1, 7001);
        z.run(6);
        c.due("the store takes it one tick before the opening tick", z.bagState(0), 5);
        z.run(1);
        c.due("the store works at the tick that has begun", z.bagState(0) * 10 + z.bagPlace(0), 16);
    }

    /** Two devices of each sort have a bag each, and all of them work in each tick. */
    private void bothOfASortWork() {
        c.says("Section 4", "The stations, then the screens, then the stores work, each sort in ascending order");
        BaggageHandling x = Check.loaded("ring 30;inlet 0;scanner 1;station 2 room 1 switch 1 time 8 exit 12;"
            + "station 3 room 1 switch 1 time 5 exit 13;screen 4 room 1 switch 1 times 8 1 1 exit 14;"
            + "screen 5 room 1 switch 1 times 5 1 1 exit 15;");
        x.checkIn(0, 0, 0, 0, 0, 0);
        x.checkIn(0, 0, 0, 0, 0, 0);
        x.checkIn(0, 7001, 15, 0, 0, 0);
        x.checkIn(0, 7002, 15, 0, 0, 0);
        x.run(9);
        c.due("all four are taken", x.stationSize(0) * 1000 + x.stationSize(1) * 100 + x.screenSize(0) * 10 + x.screenSize(1), 1111);
        int[] done = {11, 10, 15, 14};
        for (int tick = 10; tick <= 15; tick++) {
            x.run(1);
            for (int bag = 0; bag < 4; bag++) {
                c.due("bag " + bag + " is worked on at tick " + tick, x.bagState(bag) == 6 || x.bagState(bag) == 4, tick < done[bag]);
            }
        }
        BaggageHandling y = Scene.withBags(SCREENED + "store 5 room 1 switch 1 exit 12;store 6 room 1 switch 1 exit 13;"
            + "chute 19 room 9 switch 1;flight 7 chute 0 open 15 close 99;", 2, 7001);
        y.run(14);
        c.due("each store has a bag", y.storeSize(0) * 10 + y.storeSize(1), 11);
        y.run(1);
        c.due("both stores release one", y.bagAt(12) * 10 + y.bagAt(13), 1);
    }

    /** What a scanner moves ahead, or takes from ahead, is seen by the device there in the same tick. */
    private void positionsAhead() {
        c.says("Section 4", "(c) The positions are treated in ascending order.");
        BaggageHandling x = Check.loaded("ring 20;inlet 0;scanner 1;scanner 5;screen 6 room 3 switch 1 times 9 9 9 exit 15;window 1;");
        x.checkIn(0, 0, 0, 0, 0, 0);
        x.run(2);
        x.checkIn(0, 7001, 15, 0, 0, 0);
        x.run(5);
        x.slip(6);
        x.takeOff(4);
        x.run(1);
        c.due("the scanner moves a record to the bag ahead, and the screen there takes both", x.bagState(0), 4);
        BaggageHandling y = Check.loaded("ring 20;inlet 6;inlet 4;scanner 5;window 1;");
        y.checkIn(1, 7001, 15, 0, 0, 0);
        y.run(2);
        y.slip(5);
        y.checkIn(0, 7002, 15, 0, 0, 0);
        y.run(1);
        c.due("the scanner takes the record ahead, and the inlet there is free", Scene.map(y), ".....ca.............");
    }

    /** What a scanner moves or takes behind is seen by the device there in the next tick only. */
    private void positionsBehind() {
        c.says("Section 4", "(c) The positions are treated in ascending order.");
        BaggageHandling x = Scene.withBags("ring 20;inlet 0;scanner 1;screen 5 room 9 switch 2 times 9 9 9 exit 15;scanner 6;"
            + "window 1;", 2, 7001);
        x.run(6);
        x.slip(4);
        x.run(1);
        c.due("the record misses the screen, which is switching", x.count(3), 1);
        x.run(1);
        c.due("the scanner moves it to the bag behind, and the screen there has been treated", x.bagState(1) * 10 + x.bagPlace(1), 15);
        c.due("its record", x.recordLabel(5), 7001);
        BaggageHandling y = Check.loaded("ring 10;inlet 4;inlet 0;scanner 5;window 1;");
        y.checkIn(1, 7001, 15, 0, 0, 0);
        y.run(4);
        Scene.slips(y, 3, 9);
        y.checkIn(0, 7002, 15, 0, 0, 0);
        c.due("a record behind a bag", Scene.map(y), "...ox.....");
        y.run(1);
        c.due("the scanner takes the record behind, but the inlet there has been treated", Scene.map(y), ".....c....");
        y.run(1);
        c.due("the inlet is free in the next tick", Scene.map(y), "....a.c...");
    }

    private void exitsAreTreatedAsPositions() {
        c.says("Section 4", "The exit of a screen, store or station is a position of its own, which is treated as such.");
        BaggageHandling x = Check.loaded("ring 20;inlet 0;scanner 1;screen 2 room 9 switch 1 times 1 1 1 exit 6;scanner 5;window 1;");
        c.due("deviceAt(6)", x.deviceAt(6), 7);
        x.checkIn(0, 0, 0, 0, 0, 0);
        x.run(3);
        Scene.bag(x, 7001);
        x.run(3);
        x.slip(5);
        x.run(1);
        c.due("the scanner takes the record ahead, and the exit there is free", Scene.map(x), ".....ad.............");
        BaggageHandling y = Check.loaded("ring 10;inlet 0;scanner 1;screen 2 room 9 switch 1 times 1 1 1 exit 4;scanner 5;window 1;");
        y.checkIn(0, 0, 0, 0, 0, 0);
        y.run(1);
        Scene.bag(y, 7001);
        y.run(3);
        Scene.slips(y, 3, 9);
        c.due("a record behind a bag", Scene.map(y), "...ox.....");
        y.run(1);
        c.due("the scanner takes the record behind, but the exit there has been treated", Scene.map(y), ".....a....");
        c.due("exitSize(4)", y.exitSize(4), 1);
        y.run(1);
        c.due("the exit is free in the next tick", Scene.map(y), "....d.a...");
    }
}
