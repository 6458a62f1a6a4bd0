/** Promises 12 to 18: checking in, running, slipping, taking off, heads, loading and undoing. */
public final class OperationsTest {
    private static final Check CHECK = new Check();
    private static final int I = BaggageHandling.INVALID;
    private static final int N = BaggageHandling.NOT_FOUND;

    public static void main(String[] args) {
        checkingIn();
        hundredBags();
        running();
        slipping();
        slippingOverTheEnd();
        takingOff();
        heads();
        loadingChutes();
        undoing();
        onlyOperationsAreUndone();
        tenAreUndone();
        CHECK.end();
    }

    private static void checkingIn() {
        CHECK.promise(12);
        BaggageHandling x = Check.loaded("ring 12;inlet 5;inlet 1;");
        CHECK.due("inlet -1", x.checkIn(-1, 1000, 1, 0, 0, 0), I);
        CHECK.due("inlet 2", x.checkIn(2, 1000, 1, 0, 0, 0), I);
        CHECK.due("first 999", x.checkIn(0, 999, 1, 0, 0, 0), I);
        CHECK.due("first 1", x.checkIn(0, 1, 1, 0, 0, 0), I);
        CHECK.due("first -1", x.checkIn(0, -1, 1, 0, 0, 0), I);
        CHECK.due("first 1000000", x.checkIn(0, 1000000, 1, 0, 0, 0), I);
        CHECK.due("firstHeads -1", x.checkIn(0, 1000, -1, 0, 0, 0), I);
        CHECK.due("firstHeads 16", x.checkIn(0, 1000, 16, 0, 0, 0), I);
        CHECK.due("second 999", x.checkIn(0, 1000, 1, 999, 0, 0), I);
        CHECK.due("second 1000000", x.checkIn(0, 1000, 1, 1000000, 0, 0), I);
        CHECK.due("secondHeads -1", x.checkIn(0, 1000, 1, 0, -1, 0), I);
        CHECK.due("secondHeads 16", x.checkIn(0, 1000, 1, 0, 16, 0), I);
        CHECK.due("threat -1", x.checkIn(0, 1000, 1, 0, 0, -1), I);
        CHECK.due("threat 4", x.checkIn(0, 1000, 1, 0, 0, 4), I);
        CHECK.due("nothing happened", x.bags(), 0);
        CHECK.due("nothing to undo", x.undo(), I);
        CHECK.due("first bag", x.checkIn(1, 1000, 0, 999999, 15, 3), 0);
        CHECK.due("second bag", x.checkIn(1, 0, 15, 0, 15, 0), 1);
        CHECK.due("third bag", x.checkIn(0, 999999, 15, 1000, 0, 0), 2);
        CHECK.due("waiting(0)", x.waiting(0), 1);
        CHECK.due("waiting(1)", x.waiting(1), 2);
        x.run(1);
        CHECK.due("the first one enters first", x.bagAt(1), 0);
        CHECK.due("the other inlet", x.bagAt(5), 2);
        x.run(1);
        CHECK.due("then the second one", x.bagAt(1), 1);
        CHECK.due("no inlets", Check.loaded("ring 12;").checkIn(0, 1000, 1, 0, 0, 0), I);
    }

    private static void hundredBags() {
        CHECK.promise(12);
        BaggageHandling x = Check.loaded("ring 12;inlet 5;chute 6 room 1 switch 1;flight 1 chute 0 open 0 close 9;");
        for (int i = 0; i < 100; i++) {
            CHECK.due("bag " + i, x.checkIn(0, 1000, 15, 0, 0, 0), i);
        }
        CHECK.due("a bag too many", x.checkIn(0, 1000, 15, 0, 0, 0), N);
        CHECK.due("an invalid argument comes first", x.checkIn(1, 1000, 15, 0, 0, 0), I);
        CHECK.due("bags()", x.bags(), 100);
        CHECK.promise(46);
        CHECK.due("bestInlet", x.bestInlet(0, 300), N);
        CHECK.due("bestInlet of a wrong flight", x.bestInlet(1, 300), I);
        CHECK.promise(47);
        CHECK.due("latestDelay", x.latestDelay(0, 0), N);
        CHECK.due("latestDelay of a wrong inlet", x.latestDelay(0, 1), I);
        CHECK.promise(18);
        CHECK.due("undo", x.undo(), 9);
        CHECK.due("bags()", x.bags(), 99);
        CHECK.due("the hundredth again", x.checkIn(0, 1000, 15, 0, 0, 0), 99);
    }

    private static void running() {
        CHECK.promise(13);
        BaggageHandling x = Check.plantAfter(0);
        CHECK.due("run(0)", x.run(0), I);
        CHECK.due("run(-1)", x.run(-1), I);
        CHECK.due("run(301)", x.run(301), I);
        CHECK.due("run(MAX)", x.run(Integer.MAX_VALUE), I);
        CHECK.due("tick()", x.tick(), 0);
        CHECK.due("run(14)", x.run(14), 0);
        CHECK.due("run(1)", x.run(1), 1);
        CHECK.due("run(300)", x.run(300), 0);
        CHECK.due("tick()", x.tick(), 315);
        BaggageHandling y = new BaggageHandling();
        for (int i = 0; i < 333; i++) {
            y.run(300);
        }
        CHECK.due("run(101) to tick 100001", y.run(101), I);
        CHECK.due("tick()", y.tick(), 99900);
        CHECK.due("run(100) to tick 100000", y.run(100), 0);
        CHECK.due("run(1) to tick 100001", y.run(1), I);
        CHECK.due("tick()", y.tick(), 100000);
    }

    private static void slipping() {
        CHECK.promise(14);
        BaggageHandling x = Check.loaded("ring 12;inlet 5;");
        x.checkIn(0, 1000, 15, 0, 0, 0);
        x.checkIn(0, 1000, 15, 0, 0, 0);
        x.run(2);
        CHECK.due("map", Check.mapOf(x), ".....aa.....\n");
        CHECK.due("slip(-1)", x.slip(-1), false);
        CHECK.due("slip(12)", x.slip(12), false);
        CHECK.due("slip without a bag", x.slip(7), false);
        CHECK.due("slip with a bag behind", x.slip(6), false);
        CHECK.due("slip", x.slip(5), true);
        CHECK.due("map", Check.mapOf(x), "....xoa.....\n");
        CHECK.due("the other one meets a record", x.slip(6), true);
        CHECK.due("map", Check.mapOf(x), "....xao.....\n");
        CHECK.due("bagPlace(0)", x.bagPlace(0), 5);
        CHECK.due("bagPlace(1)", x.bagPlace(1), 4);
        CHECK.due("slip without a record", x.slip(4), true);
        CHECK.due("map", Check.mapOf(x), "...x.ao.....\n");
        CHECK.due("slip to bag 1", x.slip(5), true);
        CHECK.due("it is behind now", x.slip(4), false);
        x.undo();
        CHECK.due("they move on", x.run(1), 0);
        CHECK.due("map", Check.mapOf(x), "....x.ao....\n");
    }

    private static void slippingOverTheEnd() {
        CHECK.promise(14);
        BaggageHandling x = Check.loaded("ring 12;inlet 0;");
        x.checkIn(0, 1000, 15, 0, 0, 0);
        x.run(1);
        CHECK.due("slip(0)", x.slip(0), true);
        CHECK.due("map", Check.mapOf(x), "o..........x\n");
        CHECK.due("bagPlace(0)", x.bagPlace(0), 11);
        x.run(1);
        CHECK.due("map", Check.mapOf(x), "xo..........\n");

        BaggageHandling y = Check.loaded("ring 12;inlet 0;");
        y.checkIn(0, 1000, 15, 0, 0, 0);
        y.run(11);
        y.checkIn(0, 1000, 15, 0, 0, 0);
        y.run(1);
        CHECK.due("map", Check.mapOf(y), "a..........a\n");
        CHECK.due("slip(0) with bag 0 behind", y.slip(0), false);
        CHECK.due("takeOff(11)", y.takeOff(11), 0);
        CHECK.due("slip(0)", y.slip(0), true);
        CHECK.due("it has the record of bag 0", Check.mapOf(y), "o..........a\n");
    }

    private static void takingOff() {
        CHECK.promise(15);
        BaggageHandling x = Check.loaded("ring 12;inlet 5;");
        x.checkIn(0, 1000, 15, 0, 0, 0);
        x.checkIn(0, 1000, 15, 0, 0, 0);
        x.run(2);
        CHECK.due("takeOff(-1)", x.takeOff(-1), I);
        CHECK.due("takeOff(12)", x.takeOff(12), I);
        CHECK.due("takeOff(7)", x.takeOff(7), N);
        CHECK.due("takeOff(5)", x.takeOff(5), 1);
        CHECK.due("the record stays", Check.mapOf(x), ".....oa.....\n");
        CHECK.due("bagState(1)", x.bagState(1), 8);
        CHECK.due("bagPlace(1)", x.bagPlace(1), N);
        CHECK.due("count(5)", x.count(5), 1);
        CHECK.due("takeOff(5) again", x.takeOff(5), N);
        CHECK.due("takeOff(6)", x.takeOff(6), 0);
        CHECK.due("count(5)", x.count(5), 2);
        CHECK.due("onRing()", x.onRing(), 0);
    }

    private static void heads() {
        CHECK.promise(16);
        BaggageHandling x = Check.loaded(Check.PLANT);
        CHECK.due("setHead(-1)", x.setHead(-1, false), false);
        CHECK.due("setHead(4)", x.setHead(4, false), false);
        CHECK.due("setHead(4)", x.setHead(4, true), false);
        CHECK.due("setHead(5)", x.setHead(5, true), false);
        CHECK.due("setHead(32)", x.setHead(32, false), false);
        CHECK.due("works already", x.setHead(3, true), false);
        CHECK.due("setHead(3, false)", x.setHead(3, false), true);
        CHECK.due("is out of order already", x.setHead(3, false), false);
        x.checkIn(0, 7001, 8, 0, 0, 0);
        x.checkIn(0, 7001, 9, 0, 0, 0);
        x.run(4);
        CHECK.due("only head 3 sees it", x.recordLabel(3), 0);
        CHECK.due("head 0 sees it too", x.recordLabel(2), 7001);
        CHECK.due("setHead(3, true)", x.setHead(3, true), true);
        x.checkIn(0, 7001, 8, 0, 0, 0);
        x.run(3);
        CHECK.due("head 3 works again", x.recordLabel(2), 7001);
    }

    private static void loadingChutes() {
        CHECK.promise(17);
        BaggageHandling x = Check.plantAfter(0);
        CHECK.due("loadChute(-1)", x.loadChute(-1), I);
        CHECK.due("loadChute(2)", x.loadChute(2), I);
        CHECK.due("loadChute(0)", x.loadChute(0), N);
        CHECK.due("an empty chute is no operation", x.undo(), 0);
        x.checkIn(0, 7001, 15, 0, 0, 0);
        for (int i = 0; i < 3; i++) {
            x.run(8);
            x.checkIn(0, 7001, 15, 0, 0, 0);
        }
        x.run(20);
        CHECK.due("the chute is full", x.chuteSize(0), 2);
        CHECK.due("loadChute(0)", x.loadChute(0), 2);
        CHECK.due("chuteSize(0)", x.chuteSize(0), 0);
        CHECK.due("bagState(0)", x.bagState(0), 3);
        CHECK.due("bagState(1)", x.bagState(1), 3);
        CHECK.due("bagPlace(1)", x.bagPlace(1), 0);
        CHECK.due("loadChute(0) again", x.loadChute(0), N);
        CHECK.due("loadChute(1)", x.loadChute(1), N);
        CHECK.due("there is room again", x.run(40), 2);
    }

    private static void undoing() {
        CHECK.promise(18);
        BaggageHandling x = Check.plantAfter(15);
        x.loadChute(0);
        x.checkIn(0, 7002, 15, 0, 0, 3);
        x.setHead(0, false);
        x.run(2);
        x.slip(1);
        x.takeOff(0);
        CHECK.due("undo takeOff", x.undo(), 7);
        CHECK.due("map", Check.mapOf(x), "xo..................\n");
        CHECK.due("bagState(1)", x.bagState(1), 1);
        CHECK.due("count(5)", x.count(5), 0);
        CHECK.due("undo slip", x.undo(), 6);
        CHECK.due("map", Check.mapOf(x), ".a..................\n");
        CHECK.due("undo run", x.undo(), 5);
        CHECK.due("tick()", x.tick(), 15);
        CHECK.due("waiting(0)", x.waiting(0), 1);
        CHECK.due("undo setHead", x.undo(), 4);
        CHECK.due("head 0 works", x.setHead(0, true), false);
        CHECK.due("undo checkIn", x.undo(), 3);
        CHECK.due("bags()", x.bags(), 1);
        CHECK.due("undo loadChute", x.undo(), 2);
        CHECK.due("bagState(0)", x.bagState(0), 2);
        CHECK.due("undo run", x.undo(), 1);
        CHECK.due("readyAt(13)", x.readyAt(13), 0);
        CHECK.due("count(7)", x.count(7), 0);
        CHECK.due("deliveredAt(0)", x.deliveredAt(0), N);
        CHECK.due("undo checkIn", x.undo(), 0);
        CHECK.due("undo", x.undo(), I);
        CHECK.due("bags()", x.bags(), 0);
    }

    private static void onlyOperationsAreUndone() {
        CHECK.promise(18);
        BaggageHandling x = Check.plantAfter(1);
        x.run(0);
        x.slip(5);
        x.takeOff(5);
        x.setHead(0, true);
        x.loadChute(0);
        x.checkIn(0, 5, 0, 0, 0, 0);
        x.forecastDelivered(100);
        x.ticksToChute(0, 300);
        x.forecastState(0, 10);
        x.bestInlet(0, 300);
        x.latestDelay(0, 0);
        Check.put(x, "ring");
        CHECK.due("undo", x.undo(), 1);
        CHECK.due("tick()", x.tick(), 0);
        CHECK.due("the tape stays", x.tapeLength(), 4);
    }

    private static void tenAreUndone() {
        CHECK.promise(18);
        BaggageHandling x = new BaggageHandling();
        for (int i = 1; i <= 15; i++) {
            x.run(i);
        }
        for (int i = 15; i > 5; i--) {
            CHECK.due("undo run(" + i + ")", x.undo(), i - 6);
            CHECK.due("tick()", x.tick(), i * (i - 1) / 2);
        }
        CHECK.due("undo", x.undo(), I);
        CHECK.due("tick()", x.tick(), 15);
        x.run(7);
        x.run(8);
        CHECK.due("undo", x.undo(), 1);
        x.run(9);
        CHECK.due("undo", x.undo(), 1);
        CHECK.due("undo", x.undo(), 0);
        CHECK.due("tick()", x.tick(), 15);
        CHECK.due("undo", x.undo(), I);
    }
}
