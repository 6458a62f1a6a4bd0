/** The boundary cases of promises 43 to 47: what copies of the system that run ahead tell. */
final class ForecastBoundaries {
    private static final int I = Scene.I;
    private static final int N = Scene.N;
    private static final int MIN = Integer.MIN_VALUE;
    private static final int MAX = Integer.MAX_VALUE;
    private static final int[] NO_TICKS = {MIN, -1, 0, 301, 302, MAX};
    private final Check c;

    private ForecastBoundaries(Check check) {
        c = check;
    }

    static void all(Check check) {
        ForecastBoundaries b = new ForecastBoundaries(check);
        b.beyondTheLastTick();
        b.nothingChanges();
        b.ticksToChute();
        b.ticksToChuteArguments();
        b.bagIsThereAlready();
        b.notWithinTheLimit();
        b.forecastStates();
        b.forecastStateArguments();
        b.forecastDeliveries();
        b.forecastDeliveredArguments();
        b.bestInlets();
        b.additionalBag();
        b.bestInletArguments();
        b.smallestInlet();
        b.noInlet();
        b.latestDelays();
        b.thisChute();
        b.within300Ticks();
        b.beforeTheClosingTick();
        b.latestDelayArguments();
        b.noDelay();
    }

    private void beyondTheLastTick() {
        c.says("Promise 43", "---- forecasts (copies of the system run ahead, also beyond tick 100000; nothing changes)");
        BaggageHandling x = Check.loaded(Check.PLANT.replace("open 0 close 500", "open 0 close 99999"));
        Scene.runTo(x, 100000);
        Scene.bag(x, 7001);
        c.due("run(1)", x.run(1), I);
        int[] states = {1, 1, 1, 1, 4, 4, 1, 1, 6, 6, 6, 8, 8};
        for (int ticks = 1; ticks <= 13; ticks++) {
            c.due("forecastState(0, " + ticks + ")", x.forecastState(0, ticks), states[ticks - 1]);
        }
        c.due("forecastState(0, 300)", x.forecastState(0, 300), 8);
        c.due("ticksToChute(0, 300)", x.ticksToChute(0, 300), N);
        c.due("forecastDelivered(300)", x.forecastDelivered(300), 0);
        c.due("bestInlet(0, 300)", x.bestInlet(0, 300), N);
        c.due("latestDelay(0, 0)", x.latestDelay(0, 0), N);
        // From tick 99990 on a forecast goes over the end: the flight is closed then.
        BaggageHandling y = Check.loaded(Check.PLANT.replace("open 0 close 500", "open 0 close 99999"));
        Scene.runTo(y, 99990);
        Scene.bag(y, 7001);
        c.due("run(11)", y.run(11), I);
        c.due("over the end", y.forecastState(0, 300), 8);
        c.due("over the end", y.ticksToChute(0, 300), N);
        y.undo();
        y.undo();
        Scene.runTo(y, 99983);
        Scene.bag(y, 7001);
        c.due("just before the flight closes", y.ticksToChute(0, 300), 15);
        c.due("just before the flight closes, with a forecast over the end", y.forecastDelivered(300), 1);
    }

    private void nothingChanges() {
        c.says("Promise 43", "---- forecasts (copies of the system run ahead, also beyond tick 100000; nothing changes)");
        BaggageHandling x = Scene.busy();
        for (int bag = 0; bag < 14; bag++) {
            x.ticksToChute(bag, 300);
            x.forecastState(bag, 299);
        }
        x.forecastDelivered(300);
        for (int flight = 0; flight < 2; flight++) {
            x.bestInlet(flight, 300);
            x.latestDelay(flight, 0);
            x.latestDelay(flight, 1);
        }
        Scene.dueSame(c, "after forecasts", x, Scene.busy());
        BaggageHandling y = Check.plantAfter(6);
        y.latestDelay(0, 0);
        y.bestInlet(0, 300);
        c.due("the additional bag is not checked in", y.bags() * 10 + y.waiting(0), 10);
        c.due("the next bag has the next number", Scene.bag(y, 7001), 1);
    }

    // ---- promise 43

    private void ticksToChute() {
        c.says("Promise 43", "Returns in how many ticks a bag will be in a chute.");
        BaggageHandling x = Check.plantAfter(0);
        for (int tick = 0; tick < 15; tick++) {
            Scene.runTo(x, tick);
            c.due("at tick " + tick, x.ticksToChute(0, 300), 15 - tick);
        }
        c.due("it is so", x.run(1), 1);
    }

    private void ticksToChuteArguments() {
        c.says("Promise 43", "`bag`: a bag");
        BaggageHandling x = Check.plantAfter(0);
        c.due("the first bag", x.ticksToChute(0, 300), 15);
        c.says("Promise 43", "`limit`: 1 to 300");
        c.due("limit 1", x.ticksToChute(0, 1), N);
        c.due("limit 300", x.ticksToChute(0, 300), 15);
        c.says("Promise 43", "INVALID for an invalid argument.");
        for (int bad : NO_TICKS) {
            c.due("limit " + bad, x.ticksToChute(0, bad), I);
        }
        for (int bad : new int[] {MIN, -1, 1, 100, MAX}) {
            c.due("bag " + bad, x.ticksToChute(bad, 300), I);
        }
    }

    private void bagIsThereAlready() {
        c.says("Promise 43", "Returns the number of ticks, 0 if it is in a chute or loaded already;");
        BaggageHandling x = Check.plantAfter(14);
        c.due("the next tick", x.ticksToChute(0, 1), 1);
        x.run(1);
        c.due("in a chute", x.ticksToChute(0, 1), 0);
        x.loadChute(0);
        c.due("loaded", x.ticksToChute(0, 1), 0);
        x.run(300);
        c.due("later", x.ticksToChute(0, 300), 0);
    }

    private void notWithinTheLimit() {
        c.says("Promise 43", "NOT_FOUND if it will not be within limit ticks;");
        BaggageHandling x = Check.plantAfter(0);
        c.due("limit 14", x.ticksToChute(0, 14), N);
        c.due("limit 15", x.ticksToChute(0, 15), 15);
        c.due("limit 16", x.ticksToChute(0, 16), 15);
        BaggageHandling y = Check.loaded(Check.PLANT.replace("open 0 close 500", "open 400 close 500"));
        Scene.runTo(y, 101);
        Scene.bag(y, 7001);
        c.due("in 301 ticks", y.ticksToChute(0, 300), N);
        y.run(1);
        c.due("in 300 ticks", y.ticksToChute(0, 300), 300);
        c.due("in 300 ticks, limit 299", y.ticksToChute(0, 299), N);
        BaggageHandling z = Scene.busy();
        c.due("set aside", z.ticksToChute(3, 300), N);
        c.due("taken off", z.ticksToChute(10, 300), N);
        c.due("seized", z.ticksToChute(4, 300), N);
        c.due("it will be seized", z.ticksToChute(7, 300), N);
        c.due("it will be set aside", z.ticksToChute(8, 300), N);
    }

    // ---- promise 44

    private void forecastStates() {
        c.says("Promise 44", "Returns the state that a bag will have.");
        for (int bag = 0; bag < 14; bag++) {
            for (int ticks : new int[] {1, 2, 7, 300}) {
                BaggageHandling x = Scene.busy();
                int forecast = x.forecastState(bag, ticks);
                x.run(ticks);
                c.due("bag " + bag + " after " + ticks, forecast, x.bagState(bag));
            }
        }
        c.says("Promise 44", "Returns the state after so many ticks, as for bagState();");
        int[] states = {0, 1, 1, 1, 1, 4, 4, 1, 1, 1, 1, 1, 1, 1, 1, 2, 2};
        BaggageHandling x = Check.plantAfter(0);
        for (int ticks = 1; ticks < states.length; ticks++) {
            c.due("after " + ticks, x.forecastState(0, ticks), states[ticks]);
        }
    }

    private void forecastStateArguments() {
        c.says("Promise 44", "`bag`: a bag");
        c.due("the first one", Scene.busy().forecastState(0, 1), 3);
        c.due("the last one", Scene.busy().forecastState(13, 1), 1);
        c.says("Promise 44", "`ticks`: 1 to 300");
        BaggageHandling x = Check.plantAfter(0);
        c.due("1", x.forecastState(0, 1), 1);
        c.due("300", x.forecastState(0, 300), 2);
        c.says("Promise 44", "INVALID for an invalid argument.");
        for (int bad : NO_TICKS) {
            c.due("ticks " + bad, x.forecastState(0, bad), I);
        }
        for (int bad : new int[] {MIN, -1, 1, 100, MAX}) {
            c.due("bag " + bad, x.forecastState(bad, 300), I);
        }
    }

    // ---- promise 45

    private void forecastDeliveries() {
        c.says("Promise 45", "Returns how many bags will come into chutes.");
        for (int ticks : new int[] {1, 5, 6, 7, 8, 30, 60, 300}) {
            BaggageHandling x = Scene.busy();
            int forecast = x.forecastDelivered(ticks);
            c.due("within " + ticks, forecast, x.run(ticks));
        }
        c.says("Promise 45", "Returns the number of bags that come into chutes within so many ticks;");
        BaggageHandling x = Check.plantAfter(0);
        c.due("within 14", x.forecastDelivered(14), 0);
        c.due("within 15", x.forecastDelivered(15), 1);
        c.due("within 300", x.forecastDelivered(300), 1);
        x.run(14);
        c.due("within 1", x.forecastDelivered(1), 1);
        x.run(1);
        c.due("one that is in a chute already", x.forecastDelivered(300), 0);
        BaggageHandling y = Scene.withBags(Check.PLANT, 4, 7001);
        c.due("no more than there is room for", y.forecastDelivered(300), 2);
    }

    private void forecastDeliveredArguments() {
        c.says("Promise 45", "`ticks`: 1 to 300");
        BaggageHandling x = Check.plantAfter(14);
        c.due("1", x.forecastDelivered(1), 1);
        c.due("300", x.forecastDelivered(300), 1);
        c.says("Promise 45", "INVALID for an invalid argument.");
        for (int bad : NO_TICKS) {
            c.due("ticks " + bad, x.forecastDelivered(bad), I);
        }
    }

    // ---- promise 46

    private static final String INLETS = Check.PLANT.replace("inlet 0;", "inlet 19;inlet 0;inlet 1;");

    private void bestInlets() {
        c.says("Promise 46", "Returns the inlet at which an additional bag of a flight would come into a chute soonest.");
        BaggageHandling x = Check.loaded(INLETS);
        c.due("the nearest one", x.bestInlet(0, 300), 2);
        for (int i = 0; i < 3; i++) {
            x.checkIn(2, 7001, 15, 0, 0, 0);
        }
        int best = x.bestInlet(0, 300);
        int[] ticks = new int[3];
        for (int inlet = 0; inlet < 3; inlet++) {
            int bag = x.checkIn(inlet, 7000, 15, 0, 0, 0);
            ticks[inlet] = x.ticksToChute(bag, 300);
            x.undo();
        }
        for (int inlet = 0; inlet < 3; inlet++) {
            boolean sooner = ticks[inlet] >= 0 && (best < 0 || ticks[inlet] < ticks[best]);
            c.due("inlet " + inlet + " is sooner", sooner, false);
        }
        c.due("another flight", Check.loaded(INLETS).bestInlet(2, 300), 2);
    }

    private void additionalBag() {
        c.says("Promise 46", "The bag is checked in now with one label, flight number * 1000, that all heads see, and with the threat level 0.");
        for (int head = 0; head < 4; head++) {
            BaggageHandling x = Check.loaded(Check.PLANT);
            for (int other = 0; other < 4; other++) {
                x.setHead(other, other == head);
            }
            c.due("head " + head + " sees the label", x.bestInlet(0, 15), 0);
            x.setHead(head, false);
            c.due("no head sees it", x.bestInlet(0, 15), N);
            c.due("but a station knows it", x.bestInlet(0, 300), 0);
        }
        for (int number : new int[] {1, 999}) {
            BaggageHandling y = Check.loaded(Check.PLANT.replace("flight 7 ", "flight " + number + " "));
            c.due("flight " + number, y.bestInlet(0, 15), 0);
            c.due("flight " + number, y.bestInlet(0, 14), N);
        }
        BaggageHandling level = Check.loaded(Check.PLANT.replace("times 2 3 4", "times 2 99 99"));
        c.due("level 1 clears it", level.bestInlet(0, 15), 0);
        BaggageHandling behind = Scene.withBags(Check.PLANT, 1, 7001);
        c.due("it waits behind the bags that wait there", behind.bestInlet(0, 15), N);
        BaggageHandling now = Check.loaded(Check.PLANT);
        Scene.runTo(now, 484);
        c.due("now is tick 484, the flight closes at tick 500", now.bestInlet(0, 300), 0);
        now.run(1);
        c.due("now is tick 485", now.bestInlet(0, 300), N);
    }

    private void bestInletArguments() {
        c.says("Promise 46", "`flight`: index of a flight");
        BaggageHandling x = Check.loaded(Check.PLANT);
        c.due("the first one", x.bestInlet(0, 300), 0);
        c.due("the last one", x.bestInlet(2, 300), 0);
        c.says("Promise 46", "`limit`: 1 to 300");
        c.due("limit 1", x.bestInlet(0, 1), N);
        c.due("limit 300", x.bestInlet(0, 300), 0);
        c.says("Promise 46", "INVALID for an invalid argument.");
        for (int bad : NO_TICKS) {
            c.due("limit " + bad, x.bestInlet(0, bad), I);
        }
        for (int bad : new int[] {MIN, -1, 3, 7, MAX}) {
            c.due("flight " + bad, x.bestInlet(bad, 300), I);
        }
        c.due("no flights", new BaggageHandling().bestInlet(0, 300), I);
    }

    /** A bag waits in the store until its flight opens, so it comes into the chute in the same tick from every inlet. */
    private void smallestInlet() {
        c.says("Promise 46", "Returns the inlet, among several the smallest;");
        String setup = "ring 40;inlet 5;inlet 3;inlet 30;scanner 6;screen 7 room 9 switch 1 times 1 1 1 exit 2;store 4 room 9 switch 1 exit 8;"
            + "chute 12 room 9 switch 1;flight 7 chute 0 open 200 close 300;";
        BaggageHandling x = Check.loaded(setup);
        int[] ticks = new int[3];
        for (int inlet = 0; inlet < 3; inlet++) {
            ticks[inlet] = x.ticksToChute(x.checkIn(inlet, 7000, 15, 0, 0, 0), 300);
            x.undo();
        }
        for (int inlet = 0; inlet < 3; inlet++) {
            c.due("the store makes them come in the same tick", ticks[inlet], 204);
        }
        c.due("the smallest of three", x.bestInlet(0, 300), 0);
        c.due("with the least limit", x.bestInlet(0, 204), 0);
        BaggageHandling y = Check.loaded(INLETS);
        // From the second and the third inlet a bag comes at the same tick behind this one, from the first one later.
        y.checkIn(2, 7001, 15, 0, 0, 0);
        int[] later = new int[3];
        for (int inlet = 0; inlet < 3; inlet++) {
            later[inlet] = y.ticksToChute(y.checkIn(inlet, 7000, 15, 0, 0, 0), 300);
            y.undo();
        }
        c.due("the same tick", later[1], later[2]);
        c.due("the smaller of two", y.bestInlet(0, 300), 1);
    }

    private void noInlet() {
        c.says("Promise 46", "NOT_FOUND if the bag comes into no chute within limit ticks from any inlet, or there are 100 bags already;");
        BaggageHandling x = Check.loaded(INLETS);
        c.due("limit 13", x.bestInlet(0, 13), N);
        c.due("limit 14", x.bestInlet(0, 14), 2);
        BaggageHandling none = Check.loaded("ring 10;chute 0 room 1 switch 1;flight 7 chute 0 open 0 close 99;");
        c.due("no inlets", none.bestInlet(0, 300), N);
        BaggageHandling noScreen = Check.loaded("ring 10;inlet 0;scanner 1;chute 5 room 1 switch 1;flight 7 chute 0 open 0 close 99;");
        c.due("no screen", noScreen.bestInlet(0, 300), N);
        BaggageHandling closed = Check.loaded(Check.PLANT);
        Scene.runTo(closed, 100);
        c.due("a closed flight", closed.bestInlet(2, 300), N);
        // All bags are set aside at a station, so an additional one would find its way.
        String setup = "ring 60;inlet 0;inlet 40;scanner 1;screen 2 room 9 switch 1 times 1 1 1 exit 3;station 4 room 20 switch 1 time 1 exit 5;"
            + "chute 6 room 1 switch 1;flight 7 chute 0 open 0 close 999;";
        BaggageHandling many = Scene.withBags(setup, 99, 0);
        many.run(200);
        c.due("99 bags are set aside", many.count(5), 99);
        c.due("with 99 bags", many.bestInlet(0, 300), 0);
        c.due("with 99 bags", many.latestDelay(0, 0), 30);
        Scene.bag(many, 0);
        many.run(50);
        c.due("100 bags are set aside", many.count(5), 100);
        c.due("with 100 bags", many.bestInlet(0, 300), N);
        c.says("Promise 47", "NOT_FOUND if there is none, or there are 100 bags already;");
        c.due("with 100 bags", many.latestDelay(0, 0), N);
        c.due("with 100 bags at the other inlet", many.latestDelay(0, 1), N);
    }

    // ---- promise 47

    private void latestDelays() {
        c.says("Promise 47", "Returns how many ticks later a bag at the latest may be checked in at an inlet so that it"
            + " still comes into the chute of a flight"
            + " before this flight closes:");
        // A bag of flight 9 takes 17 ticks, and the flight closes at tick 100: it must be checked in at tick 82.
        BaggageHandling x = Check.loaded(Check.PLANT);
        for (int tick = 0; tick <= 110; tick++) {
            Scene.runTo(x, tick);
            c.due("at tick " + tick, x.latestDelay(2, 0), tick > 82 ? N : Math.min(30, 82 - tick));
        }
        c.says("Promise 47", "the greatest delay from 0 to 30 with which the additional bag (as for bestInlet(), checked in after"
            + " running so many ticks)"
            + " comes into this chute, within 300 ticks after it is checked in and in a tick less than the closing tick.");
        BaggageHandling y = Check.loaded(Check.PLANT);
        c.due("at most 30", y.latestDelay(2, 0), 30);
        Scene.runTo(y, 52);
        c.due("30 by the closing tick", y.latestDelay(2, 0), 30);
        y.run(1);
        c.due("29", y.latestDelay(2, 0), 29);
        Scene.runTo(y, 81);
        c.due("1", y.latestDelay(2, 0), 1);
        y.run(1);
        c.due("0", y.latestDelay(2, 0), 0);
        c.says("Promise 47", "Returns the delay;");
        int bag = y.checkIn(0, 9000, 15, 0, 0, 0);
        c.due("checked in now", y.ticksToChute(bag, 300), 17);
        y.undo();
        y.run(1);
        bag = y.checkIn(0, 9000, 15, 0, 0, 0);
        c.due("checked in a tick later", y.ticksToChute(bag, 300), N);
    }

    private void thisChute() {
        c.says("Promise 47", "the greatest delay from 0 to 30 with which the additional bag (as for bestInlet(), checked in after"
            + " running so many ticks)"
            + " comes into this chute,");
        BaggageHandling x = Check.loaded("ring 10;inlet 8;scanner 9;screen 0 room 5 switch 1 times 1 1 1 exit 1;chute 4 room 1 switch 1;"
            + "chute 6 room 9 switch 1;flight 7 chute 0 open 0 close 90;flight 8 chute 1 open 0 close 90;");
        c.due("the chute has room", x.latestDelay(0, 0), 30);
        Scene.bag(x, 7001);
        c.due("the chute will be full, with every delay", x.latestDelay(0, 0), N);
        x.run(10);
        c.due("the chute is full", x.latestDelay(0, 0), N);
        c.due("the other chute", x.latestDelay(1, 0), 30);
        x.loadChute(0);
        c.due("the chute is empty", x.latestDelay(0, 0), 30);
        // The way is 10 ticks long; from the inlet at 5 it is 15 ticks longer, and the flight closes at tick 12.
        BaggageHandling y = Check.loaded("ring 20;inlet 5;inlet 0;scanner 1;screen 2 room 5 switch 1 times 1 1 1 exit 3;chute 9 room 5 switch 1;"
            + "flight 7 chute 0 open 0 close 12;");
        c.due("from the inlet at 5", y.latestDelay(0, 0), N);
        c.due("from the inlet at 0", y.latestDelay(0, 1), 1);
    }

    private void within300Ticks() {
        c.says("Promise 47", "within 300 ticks after it is checked in");
        // The flight opens at tick 400; a bag that waits in the store comes into the chute at tick 402.
        BaggageHandling x = Check.loaded(Check.PLANT.replace("open 0 close 500", "open 400 close 500"));
        Scene.runTo(x, 71);
        c.due("301 ticks with the delay 30", x.latestDelay(0, 0), N);
        x.run(1);
        c.due("300 ticks with the delay 30", x.latestDelay(0, 0), 30);
        BaggageHandling closing = Check.loaded(Check.PLANT.replace("open 0 close 500", "open 400 close 403"));
        Scene.runTo(closing, 102);
        c.due("300 ticks with the delay 0", closing.latestDelay(0, 0), 30);
        BaggageHandling early = Check.loaded(Check.PLANT.replace("open 0 close 500", "open 400 close 402"));
        Scene.runTo(early, 102);
        c.due("it comes in the closing tick", early.latestDelay(0, 0), N);
    }

    private void beforeTheClosingTick() {
        c.says("Promise 47", "and in a tick less than the closing tick.");
        // A bag of flight 7 takes 15 ticks.
        for (int close : new int[] {15, 16, 17, 45, 46, 47}) {
            BaggageHandling x = Check.loaded(Check.PLANT.replace("open 0 close 500", "open 0 close " + close));
            c.due("the flight closes at " + close, x.latestDelay(0, 0), close < 16 ? N : Math.min(30, close - 16));
        }
        BaggageHandling closed = Check.loaded(Check.PLANT);
        Scene.runTo(closed, 100);
        c.due("the flight is closed", closed.latestDelay(2, 0), N);
        closed.run(100);
        c.due("it has been closed for long", closed.latestDelay(2, 0), N);
    }

    private void latestDelayArguments() {
        c.says("Promise 47", "`flight`: index of a flight");
        BaggageHandling x = Check.loaded(INLETS);
        c.due("the first one", x.latestDelay(0, 0), 30);
        c.due("the last one", x.latestDelay(2, 0), 30);
        c.says("Promise 47", "`inlet`: an inlet");
        Scene.runTo(x, 70);
        // A bag of flight 9 takes 18, 17 and 16 ticks from the three inlets; the flight closes at tick 100.
        for (int inlet = 0; inlet < 3; inlet++) {
            c.due("inlet " + inlet, x.latestDelay(2, inlet), 11 + inlet);
        }
        c.says("Promise 47", "INVALID for an invalid argument.");
        for (int bad : new int[] {MIN, -1, 3, 9, MAX}) {
            c.due("flight " + bad, x.latestDelay(bad, 0), I);
            c.due("inlet " + bad, x.latestDelay(0, bad), I);
        }
        c.due("no flights", Check.loaded("ring 10;inlet 0;").latestDelay(0, 0), I);
        c.due("no inlets", Check.loaded("ring 10;chute 0 room 1 switch 1;flight 7 chute 0 open 0 close 9;").latestDelay(0, 0), I);
    }

    private void noDelay() {
        c.says("Promise 47", "NOT_FOUND if there is none, or there are 100 bags already;");
        BaggageHandling x = Check.loaded(Check.PLANT);
        Scene.runTo(x, 82);
        c.due("delay 0 is one", x.latestDelay(2, 0), 0);
        x.run(1);
        c.due("none", x.latestDelay(2, 0), N);
        BaggageHandling noScanner = Check.loaded("ring 10;inlet 0;screen 2 room 1 switch 1 times 1 1 1 exit 3;chute 5 room 1 switch 1;"
            + "flight 7 chute 0 open 0 close 99;");
        c.due("no scanner", noScanner.latestDelay(0, 0), N);
    }
}
