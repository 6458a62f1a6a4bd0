import java.util.LinkedHashMap;
import java.util.Map;

/** The boundary cases of section 11: the arguments of calls, what can be undone, and the constants. */
final class CallBoundaries {
    private static final int I = Scene.I;
    private static final int N = Scene.N;
    private static final int MIN = Integer.MIN_VALUE;
    private static final int MAX = Integer.MAX_VALUE;
    private final Check c;

    /** A call with its arguments; a boolean counts 1 or 0. */
    interface Call {
        long on(BaggageHandling x);
    }

    private CallBoundaries(Check check) {
        c = check;
    }

    static void all(Check check) {
        CallBoundaries b = new CallBoundaries(check);
        b.busyScene();
        b.devicesOfANumber();
        b.bagsOfANumber();
        b.flightsOfANumber();
        b.invalidArguments();
        b.invalidComesFirst();
        b.operations();
        b.otherCallsAreNoOperations();
        b.tenCanBeUndone();
        b.constants();
    }

    /** The scene that the tests of calls without an effect use has what it should have. */
    private void busyScene() {
        c.says("Section 11", "A call with an invalid argument returns INVALID (or false) and changes nothing, unless said otherwise;");
        BaggageHandling x = Scene.busy();
        int states = 0;
        for (int bag = 0; bag < x.bags(); bag++) {
            states |= 1 << x.bagState(bag);
        }
        c.due("every state of a bag", states, 1023);
        c.due("a bag alone, a record alone", Scene.map(x), ".................a......xo....");
        c.due("ten operations", x.undo(), 9);
        Scene.dueSame(c, "two of them are the same", Scene.busy(), Scene.busy());
    }

    private static long flag(boolean answer) {
        return answer ? 1 : 0;
    }

    private static String setupWith(int inlets, int scanners, int chutes, int exits) {
        StringBuilder s = new StringBuilder("ring 60;");
        int free = 0;
        for (int i = 0; i < inlets; i++) {
            s.append("inlet " + free++ + ";");
        }
        for (int i = 0; i < scanners; i++) {
            s.append("scanner " + free++ + ";");
        }
        for (int i = 0; i < chutes; i++) {
            s.append("chute " + free++ + " room 1 switch 1;");
        }
        for (int i = 0; i < exits; i++) {
            s.append("screen " + free++ + " room 1 switch 1 times 1 1 1 exit " + free++ + ";");
            s.append("store " + free++ + " room 1 switch 1 exit " + free++ + ";");
            s.append("station " + free++ + " room 1 switch 1 time 1 exit " + free++ + ";");
        }
        return s.toString();
    }

    /** Checks that a call takes the numbers 0 to count - 1 and no others. */
    private void takes(String name, int count, BaggageHandling x, java.util.function.IntToLongFunction call) {
        for (int bad : new int[] {MIN, -2, -1, count, count + 1, 10, 100, MAX}) {
            if (bad < 0 || bad >= count) {
                c.due(name + "(" + bad + ") of " + count, call.applyAsLong(bad), I);
            }
        }
        for (int good = 0; good < count; good++) {
            c.due(name + "(" + good + ") of " + count, call.applyAsLong(good) != I, true);
        }
    }

    private void devicesOfANumber() {
        c.says("Section 11", "A device, bag or flight argument is valid if there is one of that number");
        int[] counts = {0, 1, 2, 3, 6};
        for (int k : counts) {
            int inlets = Math.min(k, 3);
            int others = Math.min(k, 2);
            BaggageHandling x = Check.loaded(setupWith(inlets, Math.min(k, 3), k, others));
            takes("waiting", inlets, x, x::waiting);
            takes("checkIn", inlets, x, i -> x.checkIn(i, 0, 0, 0, 0, 0));
            takes("chuteSize", k, x, x::chuteSize);
            takes("loadChute", k, x, x::loadChute);
            takes("misrouted", k, x, x::misrouted);
            takes("screenSize", others, x, x::screenSize);
            takes("screenLevel", others, x, x::screenLevel);
            takes("storeSize", others, x, x::storeSize);
            takes("stationSize", others, x, x::stationSize);
        }
        BaggageHandling x = Check.loaded(setupWith(3, 1, 1, 0) + "flight 7 chute 0 open 0 close 9;");
        takes("latestDelay", 3, x, i -> x.latestDelay(0, i));
    }

    private void bagsOfANumber() {
        c.says("Section 11", "A device, bag or flight argument is valid if there is one of that number");
        for (int count : new int[] {0, 1, 2, 99, 100}) {
            BaggageHandling x = Check.loaded("ring 10;inlet 0;");
            Scene.bags(x, count, 7001);
            takes("bagState", count, x, x::bagState);
            takes("bagPlace", count, x, x::bagPlace);
            takes("deliveredAt", count, x, x::deliveredAt);
            takes("properLabel", count, x, x::properLabel);
            takes("ticksToChute", count, x, i -> x.ticksToChute(i, 1));
            takes("forecastState", count, x, i -> x.forecastState(i, 1));
        }
    }

    private void flightsOfANumber() {
        c.says("Section 11", "A device, bag or flight argument is valid if there is one of that number (flights are referred to by their index,"
            + " from 0 in the order of the setup text).");
        for (int count : new int[] {0, 1, 2, 9, 10}) {
            StringBuilder s = new StringBuilder(setupWith(1, 1, 1, 0));
            for (int i = 0; i < count; i++) {
                s.append("flight " + (900 - i) + " chute 0 open 0 close 9;");
            }
            BaggageHandling x = Check.loaded(s.toString());
            takes("flightNumber", count, x, x::flightNumber);
            takes("flightState", count, x, x::flightState);
            takes("delivered", count, x, x::delivered);
            takes("bestInlet", count, x, i -> x.bestInlet(i, 1));
            takes("latestDelay", count, x, i -> x.latestDelay(i, 0));
            for (int i = 0; i < count; i++) {
                c.due("flightNumber(" + i + ")", x.flightNumber(i), 900 - i);
            }
        }
    }

    /** Calls on the busy scene, each with an argument that is not valid; those that answer false are due to answer 0. */
    static Map<String, Call> invalidCalls() {
        Map<String, Call> calls = new LinkedHashMap<>();
        for (int bad : new int[] {MIN, -1, 30, MAX}) {
            calls.put("deviceAt " + bad, x -> x.deviceAt(bad));
            calls.put("bagAt " + bad, x -> x.bagAt(bad));
            calls.put("recordLabel " + bad, x -> x.recordLabel(bad));
            calls.put("passes " + bad, x -> x.passes(bad));
            calls.put("destination " + bad, x -> x.destination(bad));
            calls.put("exitSize " + bad, x -> x.exitSize(bad));
            calls.put("readyAt " + bad, x -> x.readyAt(bad));
            calls.put("takeOff " + bad, x -> x.takeOff(bad));
        }
        for (int bad : new int[] {MIN, -1, 2, 6, MAX}) {
            calls.put("checkIn " + bad, x -> x.checkIn(bad, 7001, 15, 0, 0, 0));
            calls.put("waiting " + bad, x -> x.waiting(bad));
            calls.put("chuteSize " + bad, x -> x.chuteSize(bad));
            calls.put("loadChute " + bad, x -> x.loadChute(bad));
            calls.put("misrouted " + bad, x -> x.misrouted(bad));
            calls.put("screenSize " + bad, x -> x.screenSize(bad));
            calls.put("screenLevel " + bad, x -> x.screenLevel(bad));
            calls.put("storeSize " + bad, x -> x.storeSize(bad));
            calls.put("stationSize " + bad, x -> x.stationSize(bad));
            calls.put("flightNumber " + bad, x -> x.flightNumber(bad));
            calls.put("flightState " + bad, x -> x.flightState(bad));
            calls.put("delivered " + bad, x -> x.delivered(bad));
            calls.put("bestInlet " + bad, x -> x.bestInlet(bad, 300));
            calls.put("latestDelay " + bad, x -> x.latestDelay(bad, 0));
            calls.put("latestDelay 0 " + bad, x -> x.latestDelay(0, bad));
        }
        for (int bad : new int[] {MIN, -1, 14, 100, MAX}) {
            calls.put("bagState " + bad, x -> x.bagState(bad));
            calls.put("bagPlace " + bad, x -> x.bagPlace(bad));
            calls.put("deliveredAt " + bad, x -> x.deliveredAt(bad));
            calls.put("properLabel " + bad, x -> x.properLabel(bad));
            calls.put("ticksToChute " + bad, x -> x.ticksToChute(bad, 300));
            calls.put("forecastState " + bad, x -> x.forecastState(bad, 300));
        }
        for (int bad : new int[] {MIN, -1, 0, 301, MAX}) {
            calls.put("run " + bad, x -> x.run(bad));
            calls.put("ticksToChute 0 " + bad, x -> x.ticksToChute(0, bad));
            calls.put("forecastState 0 " + bad, x -> x.forecastState(0, bad));
            calls.put("forecastDelivered " + bad, x -> x.forecastDelivered(bad));
            calls.put("bestInlet 0 " + bad, x -> x.bestInlet(0, bad));
        }
        invalidValues(calls);
        return calls;
    }

    private static void invalidValues(Map<String, Call> calls) {
        for (int bad : new int[] {MIN, -1, 1, 999, 1000000, MAX}) {
            calls.put("checkIn with the first label " + bad, x -> x.checkIn(0, bad, 15, 0, 0, 0));
            calls.put("checkIn with the second label " + bad, x -> x.checkIn(0, 7001, 15, bad, 15, 0));
        }
        for (int bad : new int[] {MIN, -1, 16, MAX}) {
            calls.put("checkIn with the first heads " + bad, x -> x.checkIn(0, 7001, bad, 0, 0, 0));
            calls.put("checkIn with the second heads " + bad, x -> x.checkIn(0, 7001, 15, 0, bad, 0));
        }
        for (int bad : new int[] {MIN, -1, 4, MAX}) {
            calls.put("checkIn with the threat " + bad, x -> x.checkIn(0, 7001, 15, 0, 0, bad));
        }
        for (int bad : new int[] {MIN, -1, 9, MAX}) {
            calls.put("truncate " + bad, x -> x.truncate(bad));
        }
        for (int bad : new int[] {MIN, -1, 0, 7, MAX}) {
            calls.put("devices " + bad, x -> x.devices(bad));
        }
        for (int bad : new int[] {MIN, -1, 8, MAX}) {
            calls.put("count " + bad, x -> x.count(bad));
        }
        for (int bad : new int[] {MIN, -1}) {
            calls.put("mapByte " + bad, x -> x.mapByte(bad));
            calls.put("setupByte " + bad, x -> x.setupByte(bad));
        }
    }

    private static Map<String, Call> falseCalls() {
        Map<String, Call> calls = new LinkedHashMap<>();
        for (int bad : new int[] {MIN, -1, 30, MAX}) {
            calls.put("isCleared " + bad, x -> flag(x.isCleared(bad)));
            calls.put("slip " + bad, x -> flag(x.slip(bad)));
        }
        for (int bad : new int[] {MIN, -30, -1, 4, 34, MAX}) {
            calls.put("setHead true " + bad, x -> flag(x.setHead(bad, true)));
            calls.put("setHead false " + bad, x -> flag(x.setHead(bad, false)));
        }
        return calls;
    }

    private void invalidArguments() {
        c.says("Section 11", "A call with an invalid argument returns INVALID (or false) and changes nothing, unless said otherwise;");
        String before = Scene.everything(Scene.busy());
        BaggageHandling x = Scene.busy();
        for (Map.Entry<String, Call> call : invalidCalls().entrySet()) {
            c.due(call.getKey(), call.getValue().on(x), I);
            c.due("everything after " + call.getKey(), Scene.everything(x), before);
        }
        for (Map.Entry<String, Call> call : falseCalls().entrySet()) {
            c.due(call.getKey(), call.getValue().on(x), 0);
            c.due("everything after " + call.getKey(), Scene.everything(x), before);
        }
        Scene.dueSame(c, "after calls with invalid arguments", x, Scene.busy());
    }

    private void invalidComesFirst() {
        c.says("Section 11", "this is checked before any other special result.");
        BaggageHandling full = Check.loaded("ring 10;inlet 0;chute 5 room 1 switch 1;flight 7 chute 0 open 0 close 9;");
        Scene.bags(full, 100, 7001);
        c.due("checkIn of a wrong inlet with 100 bags", full.checkIn(1, 7001, 15, 0, 0, 0), I);
        c.due("checkIn of a wrong first label with 100 bags", full.checkIn(0, 999, 15, 0, 0, 0), I);
        c.due("checkIn of wrong first heads with 100 bags", full.checkIn(0, 7001, 16, 0, 0, 0), I);
        c.due("checkIn of a wrong second label with 100 bags", full.checkIn(0, 7001, 15, 999, 0, 0), I);
        c.due("checkIn of wrong second heads with 100 bags", full.checkIn(0, 7001, 15, 0, 16, 0), I);
        c.due("checkIn of a wrong threat with 100 bags", full.checkIn(0, 7001, 15, 0, 0, 4), I);
        c.due("bestInlet of a wrong flight with 100 bags", full.bestInlet(1, 300), I);
        c.due("bestInlet of a wrong limit with 100 bags", full.bestInlet(0, 301), I);
        c.due("latestDelay of a wrong flight with 100 bags", full.latestDelay(1, 0), I);
        c.due("latestDelay of a wrong inlet with 100 bags", full.latestDelay(0, 1), I);
        BaggageHandling none = Check.loaded("ring 10;chute 5 room 1 switch 1;flight 7 chute 0 open 0 close 9;");
        c.due("bestInlet of a wrong limit without inlets", none.bestInlet(0, 0), I);
        c.due("bestInlet of a wrong flight without inlets", none.bestInlet(1, 1), I);
        c.due("latestDelay without inlets", none.latestDelay(0, 0), I);
        BaggageHandling there = Check.plantAfter(15);
        c.due("ticksToChute of a bag in a chute, limit 0", there.ticksToChute(0, 0), I);
        c.due("ticksToChute of a bag in a chute, limit 301", there.ticksToChute(0, 301), I);
        BaggageHandling gone = Check.loaded(Check.PLANT);
        gone.checkIn(0, 7001, 15, 0, 0, 3);
        gone.run(30);
        c.due("ticksToChute of a seized bag, limit 0", gone.ticksToChute(0, 0), I);
        c.due("mapByte(MIN)", gone.mapByte(MIN), I);
        c.due("setupByte(MIN)", gone.setupByte(MIN), I);
        c.due("loadChute of a chute that is not there, nor has bags", gone.loadChute(2), I);
        c.due("takeOff of a position that is not there, nor has a bag", gone.takeOff(20), I);
    }

    private void operations() {
        c.says("Section 11", "Operations are the successful calls of checkIn(), run(), slip(), takeOff(), setHead() and loadChute().");
        BaggageHandling x = Check.plantAfter(15);
        Map<String, Call> calls = new LinkedHashMap<>();
        calls.put("checkIn", y -> y.checkIn(0, 7001, 15, 0, 0, 0));
        calls.put("run", y -> y.run(2));
        calls.put("slip", y -> flag(y.slip(1)));
        calls.put("takeOff", y -> y.takeOff(0));
        calls.put("setHead", y -> flag(y.setHead(0, false)));
        calls.put("setHead back", y -> flag(y.setHead(0, true)));
        calls.put("loadChute", y -> y.loadChute(0));
        int before = 2;
        for (Map.Entry<String, Call> call : calls.entrySet()) {
            String was = Scene.everything(x);
            long answer = call.getValue().on(x);
            c.due(call.getKey() + " succeeds", answer >= (call.getKey().matches("slip|setHead.*") ? 1 : 0), true);
            c.due(call.getKey() + " can be undone", x.undo(), before);
            c.due(call.getKey() + " is undone", Scene.everything(x), was);
            c.due(call.getKey() + " can be done again", call.getValue().on(x), answer);
            before++;
        }
    }

    private void otherCallsAreNoOperations() {
        c.says("Section 11", "Operations are the successful calls of checkIn(), run(), slip(), takeOff(), setHead() and loadChute().");
        BaggageHandling x = Check.plantAfter(15);
        x.append(0x72696e67, 0x2031303b, 0, 0, 0);
        x.truncate(1);
        x.load();
        Check.put(x, "ring");
        c.due("errorPosition()", x.errorPosition(), 8);
        x.checkIn(1, 7001, 15, 0, 0, 0);
        x.run(301);
        x.slip(5);
        x.slip(20);
        x.takeOff(5);
        x.takeOff(20);
        x.setHead(0, true);
        x.setHead(4, false);
        x.loadChute(1);
        x.loadChute(2);
        x.ticksToChute(0, 300);
        x.forecastState(0, 300);
        x.forecastDelivered(300);
        x.bestInlet(0, 300);
        x.latestDelay(0, 0);
        Scene.everything(x);
        c.due("the latest operation is run", x.undo(), 1);
        c.due("it is undone", x.tick(), 0);
        c.due("the tape is not", x.tapeLength(), 4);
        c.due("the error position is not", x.errorPosition(), 8);
        x.setHead(1, false);
        c.due("an operation that is undone is none", x.undo(), 1);
        c.due("the other operation is checkIn", x.undo(), 0);
        c.due("it is undone", x.bags(), 0);
        c.due("no more", x.undo(), I);
    }

    private void tenCanBeUndone() {
        c.says("Section 11", "The latest 10 of them can be undone.");
        for (int operations : new int[] {1, 9, 10, 11, 20, 21, 25}) {
            BaggageHandling x = new BaggageHandling();
            for (int i = 1; i <= operations; i++) {
                x.run(i);
            }
            int most = Math.min(10, operations);
            for (int left = most - 1; left >= 0; left--) {
                c.due("undo of " + operations + ", left", x.undo(), left);
                int run = operations - most + left;
                c.due("tick after it", x.tick(), run * (run + 1) / 2);
            }
            int tick = x.tick();
            c.due("no more of " + operations, x.undo(), I);
            c.due("nothing is undone then", x.tick(), tick);
            x.run(1);
            c.due("a new one can be undone", x.undo(), 0);
            c.due("but no other one", x.undo(), I);
        }
        BaggageHandling y = new BaggageHandling();
        for (int i = 0; i < 12; i++) {
            y.run(1);
        }
        y.undo();
        y.undo();
        y.undo();
        c.due("tick() after three undos", y.tick(), 9);
        for (int i = 0; i < 3; i++) {
            y.run(100);
        }
        for (int left = 9; left >= 0; left--) {
            c.due("ten again", y.undo(), left);
        }
        c.due("tick() after ten undos", y.tick(), 2);
        c.due("no more", y.undo(), I);
    }

    private void constants() {
        c.says("Section 11", "`INVALID = -1`: Result of a call with an invalid argument.");
        c.due("INVALID", BaggageHandling.INVALID, -1);
        c.due("deviceAt(-1)", new BaggageHandling().deviceAt(-1), -1);
        c.says("Section 11", "`NOT_FOUND = -2`: Result of a call that finds nothing.");
        c.due("NOT_FOUND", BaggageHandling.NOT_FOUND, -2);
        c.due("bagAt(0)", new BaggageHandling().bagAt(0), -2);
        c.due("N and I of the tests", N * 10 + I, -21);
    }
}
