/** Ways to bring a system into the state that a test is about, and to look at all of it. */
final class Scene {
    static final int I = BaggageHandling.INVALID;
    static final int N = BaggageHandling.NOT_FOUND;

    private Scene() {
    }

    private static final String BUSY = "ring 30;inlet 0;inlet 16;scanner 1;screen 2 room 5 switch 1 times 1 1 9 exit 4;"
        + "station 6 room 5 switch 1 time 2 exit 8;store 10 room 5 switch 1 exit 17;chute 20 room 5 switch 1;"
        + "chute 22 room 5 switch 1;flight 7 chute 0 open 0 close 200;flight 8 chute 1 open 40 close 200;window 1;passes 3;";

    /**
     * A system at tick 40 with a bag in every state, a bag alone, a record alone, a head out of order, ten
     * operations that can be undone, an error position and something on the tape.
     */
    static BaggageHandling busy() {
        BaggageHandling x = Check.loaded(BUSY);
        Check.put(x, "ring ?");
        x.load();
        Check.put(x, "ring 10;");
        bag(x, 7001);
        bag(x, 8001);
        bag(x, 8002);
        bag(x, 0);
        x.checkIn(0, 7002, 15, 0, 0, 3);
        runTo(x, 20);
        x.loadChute(0);
        bag(x, 7003);
        runTo(x, 30);
        x.checkIn(1, 0, 0, 0, 0, 0);
        runTo(x, 32);
        x.checkIn(0, 7004, 15, 0, 0, 3);
        bag(x, 0);
        bag(x, 7005);
        runTo(x, 37);
        x.setHead(2, false);
        bag(x, 7006);
        runTo(x, 38);
        x.slip(23);
        x.takeOff(0);
        x.checkIn(1, 0, 0, 0, 0, 0);
        runTo(x, 40);
        bag(x, 7007);
        x.checkIn(1, 7008, 15, 8008, 15, 0);
        return x;
    }

    /** Checks a bag in at inlet 0: one label, which all heads see, and no threat. */
    static int bag(BaggageHandling x, int label) {
        return x.checkIn(0, label, 15, 0, 0, 0);
    }

    static void bags(BaggageHandling x, int count, int label) {
        for (int i = 0; i < count; i++) {
            bag(x, label);
        }
    }

    /** A new object with a setup, in which so many bags with a label wait at inlet 0. */
    static BaggageHandling withBags(String setup, int count, int label) {
        BaggageHandling x = Check.loaded(setup);
        bags(x, count, label);
        return x;
    }

    static void runTo(BaggageHandling x, int tick) {
        while (x.tick() < tick) {
            x.run(Math.min(300, tick - x.tick()));
        }
    }

    /** The bag at a position slips back so many times; its record stays. */
    static void slips(BaggageHandling x, int position, int times) {
        int n = x.positions();
        for (int i = 0; i < times; i++) {
            x.slip(Math.floorMod(position - i, n));
        }
    }

    /** The map without the line feed at its end. */
    static String map(BaggageHandling x) {
        return Check.mapOf(x).replace("\n", "");
    }

    /** The answers to all questions that change nothing, also to those about the future. */
    static String everything(BaggageHandling x) {
        StringBuilder s = new StringBuilder();
        s.append(Check.setupOf(x)).append(Check.mapOf(x));
        add(s, "tape", x.tapeLength(), x.errorPosition());
        add(s, "all", x.positions(), x.flights(), x.tick(), x.bags(), x.onRing(), x.untracked(), x.forecastDelivered(300));
        for (int p = 0; p < x.positions(); p++) {
            add(s, "position " + p, x.deviceAt(p), x.bagAt(p), x.recordLabel(p), x.isCleared(p) ? 1 : 0, x.passes(p),
                x.destination(p), x.exitSize(p), x.readyAt(p));
        }
        for (int k = 0; k < 10; k++) {
            add(s, "number " + k, x.devices(k), x.flightNumber(k), x.flightState(k), x.waiting(k), x.chuteSize(k), x.screenSize(k),
                x.screenLevel(k), x.storeSize(k), x.stationSize(k), x.count(k), x.misrouted(k), x.delivered(k));
        }
        for (int bag = 0; bag < x.bags(); bag++) {
            add(s, "bag " + bag, x.bagState(bag), x.bagPlace(bag), x.deliveredAt(bag), x.properLabel(bag), x.ticksToChute(bag, 300),
                x.forecastState(bag, 1), x.forecastState(bag, 5), x.forecastState(bag, 40));
        }
        return s.toString();
    }

    private static void add(StringBuilder s, String name, int... answers) {
        s.append(name).append(':');
        for (int answer : answers) {
            s.append(' ').append(answer);
        }
        s.append('\n');
    }

    /**
     * Checks that two objects are in the same state, in what can be undone and in their heads, too. They are
     * not in that state afterwards.
     */
    static void dueSame(Check c, String what, BaggageHandling x, BaggageHandling y) {
        c.due(what, everything(x), everything(y));
        for (int i = 0; i <= 10; i++) {
            int left = y.undo();
            c.due(what + ", undo " + i, x.undo(), left);
            c.due(what + ", after undo " + i, everything(x), everything(y));
        }
        for (int head = 0; head < 4; head++) {
            c.due(what + ", head " + head, x.setHead(head, true), y.setHead(head, true));
        }
    }
}
