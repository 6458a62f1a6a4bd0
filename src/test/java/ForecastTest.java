/** Promises 43 to 47: what copies of the system that run ahead tell. */
public final class ForecastTest {
    private static final Check CHECK = new Check();
    private static final int I = BaggageHandling.INVALID;
    private static final int N = BaggageHandling.NOT_FOUND;

    public static void main(String[] args) {
        ticksToChutes();
        states();
        deliveries();
        bestInlets();
        sameTicks();
        withoutInlets();
        latestDelays();
        latestDelayWithin300();
        latestDelayWithFullChutes();
        beyondTheLastTick();
        nothingChanges();
        CHECK.end();
    }

    private static void ticksToChutes() {
        CHECK.promise(43);
        BaggageHandling x = Check.plantAfter(0);
        CHECK.due("bag -1", x.ticksToChute(-1, 10), I);
        CHECK.due("bag 1", x.ticksToChute(1, 10), I);
        CHECK.due("limit 0", x.ticksToChute(0, 0), I);
        CHECK.due("limit 301", x.ticksToChute(0, 301), I);
        CHECK.due("limit 14", x.ticksToChute(0, 14), N);
        CHECK.due("limit 15", x.ticksToChute(0, 15), 15);
        CHECK.due("limit 300", x.ticksToChute(0, 300), 15);
        x.run(10);
        CHECK.due("at tick 10", x.ticksToChute(0, 5), 5);
        CHECK.due("at tick 10", x.ticksToChute(0, 4), N);
        x.run(5);
        CHECK.due("in the chute", x.ticksToChute(0, 1), 0);
        x.loadChute(0);
        CHECK.due("loaded", x.ticksToChute(0, 1), 0);
        x.checkIn(0, 7001, 15, 0, 0, 3);
        CHECK.due("it will be seized", x.ticksToChute(1, 300), N);
        x.checkIn(0, 0, 15, 0, 0, 0);
        CHECK.due("it will be set aside", x.ticksToChute(2, 300), N);
        x.run(30);
        CHECK.due("it is seized", x.ticksToChute(1, 300), N);
        CHECK.due("it is set aside", x.ticksToChute(2, 300), N);
    }

    private static void states() {
        CHECK.promise(44);
        BaggageHandling x = Check.plantAfter(0);
        CHECK.due("bag -1", x.forecastState(-1, 10), I);
        CHECK.due("bag 1", x.forecastState(1, 10), I);
        CHECK.due("ticks 0", x.forecastState(0, 0), I);
        CHECK.due("ticks 301", x.forecastState(0, 301), I);
        int[] states = {0, 1, 1, 1, 1, 4, 4, 1, 1, 1, 1, 1, 1, 1, 1, 2, 2};
        for (int ticks = 1; ticks < states.length; ticks++) {
            CHECK.due("after " + ticks, x.forecastState(0, ticks), states[ticks]);
        }
        CHECK.due("after 300", x.forecastState(0, 300), 2);
        x.run(15);
        x.loadChute(0);
        CHECK.due("loaded", x.forecastState(0, 300), 3);
    }

    private static void deliveries() {
        CHECK.promise(45);
        BaggageHandling x = Check.plantAfter(0);
        x.run(8);
        x.checkIn(0, 9001, 15, 0, 0, 0);
        CHECK.due("ticks 0", x.forecastDelivered(0), I);
        CHECK.due("ticks -1", x.forecastDelivered(-1), I);
        CHECK.due("ticks 301", x.forecastDelivered(301), I);
        CHECK.due("ticks 1", x.forecastDelivered(1), 0);
        CHECK.due("ticks 6", x.forecastDelivered(6), 0);
        CHECK.due("ticks 7", x.forecastDelivered(7), 1);
        CHECK.due("ticks 16", x.forecastDelivered(16), 1);
        CHECK.due("ticks 17", x.forecastDelivered(17), 2);
        CHECK.due("ticks 300", x.forecastDelivered(300), 2);
        x.run(7);
        CHECK.due("the first one is there already", x.forecastDelivered(300), 1);
    }

    private static void bestInlets() {
        CHECK.promise(46);
        BaggageHandling x = Check.loaded(Check.PLANT);
        CHECK.due("flight -1", x.bestInlet(-1, 10), I);
        CHECK.due("flight 3", x.bestInlet(3, 10), I);
        CHECK.due("limit 0", x.bestInlet(0, 0), I);
        CHECK.due("limit 301", x.bestInlet(0, 301), I);
        CHECK.due("limit 1", x.bestInlet(0, 1), N);
        CHECK.due("limit 14", x.bestInlet(0, 14), N);
        CHECK.due("limit 15", x.bestInlet(0, 15), 0);
        CHECK.due("the chute of flight 9 is farther, limit 16", x.bestInlet(2, 16), N);
        CHECK.due("limit 17", x.bestInlet(2, 17), 0);
        CHECK.due("flight 8 opens at tick 50, limit 53", x.bestInlet(1, 53), N);
        CHECK.due("limit 54", x.bestInlet(1, 54), 0);
        for (int head = 0; head < 3; head++) {
            x.setHead(head, false);
        }
        CHECK.due("one head is enough", x.bestInlet(0, 15), 0);
        x.setHead(3, false);
        CHECK.due("without heads", x.bestInlet(0, 15), N);
        BaggageHandling closed = Check.loaded(Check.PLANT);
        closed.run(99);
        CHECK.due("the flight closes", closed.bestInlet(2, 300), N);
    }

    private static final String INLETS = Check.PLANT.replace("inlet 0;", "inlet 19;inlet 0;inlet 1;");

    private static void sameTicks() {
        CHECK.promise(46);
        BaggageHandling x = Check.loaded(INLETS);
        CHECK.due("limit 13", x.bestInlet(0, 13), N);
        CHECK.due("the third inlet is the nearest one", x.bestInlet(0, 14), 2);
        CHECK.due("also with more time", x.bestInlet(0, 300), 2);
        // The bag at the third inlet makes the screen miss the next bag, whether that comes from the second
        // inlet or from the third; and one from the first inlet misses the chute.
        x.checkIn(2, 7001, 15, 0, 0, 0);
        CHECK.due("limit 34", x.bestInlet(0, 34), N);
        CHECK.due("limit 35", x.bestInlet(0, 35), 1);
        CHECK.due("limit 300", x.bestInlet(0, 300), 1);
    }

    private static void withoutInlets() {
        CHECK.promise(46);
        BaggageHandling x = Check.loaded("ring 10;chute 0 room 1 switch 1;flight 7 chute 0 open 0 close 10;");
        CHECK.due("bestInlet", x.bestInlet(0, 300), N);
        CHECK.due("bestInlet of a wrong flight", x.bestInlet(1, 300), I);
        CHECK.promise(47);
        CHECK.due("latestDelay", x.latestDelay(0, 0), I);
    }

    private static void latestDelays() {
        CHECK.promise(47);
        BaggageHandling x = Check.loaded(Check.PLANT);
        CHECK.due("flight -1", x.latestDelay(-1, 0), I);
        CHECK.due("flight 3", x.latestDelay(3, 0), I);
        CHECK.due("inlet -1", x.latestDelay(0, -1), I);
        CHECK.due("inlet 1", x.latestDelay(0, 1), I);
        CHECK.due("30 at most", x.latestDelay(2, 0), 30);
        // A bag of flight 9 takes 17 ticks, and the flight closes at tick 100.
        x.run(52);
        CHECK.due("at tick 52", x.latestDelay(2, 0), 30);
        x.run(1);
        CHECK.due("at tick 53", x.latestDelay(2, 0), 29);
        x.run(29);
        CHECK.due("at tick 82", x.latestDelay(2, 0), 0);
        x.run(1);
        CHECK.due("at tick 83", x.latestDelay(2, 0), N);
        x.run(100);
        CHECK.due("closed", x.latestDelay(2, 0), N);
    }

    /** The flight opens at tick 400; a bag that waits in the store comes into the chute at tick 402. */
    private static void latestDelayWithin300() {
        CHECK.promise(47);
        BaggageHandling x = Check.loaded(Check.PLANT.replace("open 0 close 500", "open 400 close 500"));
        x.run(71);
        CHECK.due("301 ticks", x.latestDelay(0, 0), N);
        x.run(1);
        CHECK.due("300 ticks", x.latestDelay(0, 0), 30);
        CHECK.promise(46);
        CHECK.due("330 ticks", x.bestInlet(0, 300), N);
        x.run(30);
        CHECK.due("300 ticks", x.bestInlet(0, 300), 0);
        CHECK.due("299 ticks", x.bestInlet(0, 299), N);
    }

    /** In a forecast nobody loads the chutes, so a full one stays full. */
    private static void latestDelayWithFullChutes() {
        CHECK.promise(47);
        String setup = "ring 10;inlet 8;scanner 9;screen 0 room 5 switch 1 times 1 1 1 exit 1;chute 4 room 1 switch 1;"
            + "chute 6 room 9 switch 1;flight 7 chute 0 open 0 close 90;flight 8 chute 1 open 0 close 90;";
        BaggageHandling x = Check.loaded(setup);
        CHECK.due("the chute has room", x.latestDelay(0, 0), 30);
        x.checkIn(0, 7001, 15, 0, 0, 0);
        x.run(10);
        CHECK.due("chuteSize(0)", x.chuteSize(0), 1);
        CHECK.due("the chute is full", x.latestDelay(0, 0), N);
        CHECK.due("the other one is not", x.latestDelay(1, 0), 30);
        x.loadChute(0);
        CHECK.due("the chute is empty", x.latestDelay(0, 0), 30);
    }

    private static void beyondTheLastTick() {
        CHECK.promise(44);
        BaggageHandling x = Check.loaded(Check.PLANT);
        for (int i = 0; i < 333; i++) {
            x.run(300);
        }
        x.run(100);
        CHECK.due("tick()", x.tick(), 100000);
        x.checkIn(0, 7001, 15, 0, 0, 0);
        CHECK.due("run(1)", x.run(1), I);
        CHECK.due("forecastState(0, 1)", x.forecastState(0, 1), 1);
        CHECK.due("forecastState(0, 5)", x.forecastState(0, 5), 4);
        CHECK.due("forecastState(0, 300)", x.forecastState(0, 300), 8);
        CHECK.promise(43);
        CHECK.due("ticksToChute(0, 300)", x.ticksToChute(0, 300), N);
        CHECK.promise(45);
        CHECK.due("forecastDelivered(300)", x.forecastDelivered(300), 0);
        CHECK.promise(46);
        CHECK.due("bestInlet(0, 300)", x.bestInlet(0, 300), N);
        CHECK.promise(47);
        CHECK.due("latestDelay(0, 0)", x.latestDelay(0, 0), N);
    }

    private static void nothingChanges() {
        BaggageHandling x = Check.plantAfter(6);
        BaggageHandling y = Check.plantAfter(6);
        x.ticksToChute(0, 300);
        x.forecastState(0, 300);
        x.forecastDelivered(300);
        x.bestInlet(0, 300);
        x.latestDelay(0, 0);
        for (int promise = 43; promise <= 47; promise++) {
            CHECK.promise(promise);
            CHECK.due("tick()", x.tick(), 6);
            CHECK.due("bags()", x.bags(), 1);
            CHECK.due("waiting(0)", x.waiting(0), 0);
            CHECK.due("screenSize(0)", x.screenSize(0), 1);
            CHECK.due("count(7)", x.count(7), 0);
            CHECK.due("map", Check.mapOf(x), Check.mapOf(y));
        }
        CHECK.due("the same run", x.run(9), y.run(9));
        CHECK.due("the same undo", x.undo(), y.undo());
    }
}
