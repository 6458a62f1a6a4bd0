/** Promises 1 to 11 and 50 to 52: a new object, the tape, the setup text and what it says. */
public final class SetupTest {
    private static final Check CHECK = new Check();
    private static final int I = BaggageHandling.INVALID;
    private static final int N = BaggageHandling.NOT_FOUND;
    private static final int SPACES = 0x20202020;

    public static void main(String[] args) {
        newObject();
        tape();
        loading();
        failedLoading();
        syntaxErrors();
        valueErrors();
        tooMany();
        whiteSpace();
        questions();
        texts();
        longestText();
        CHECK.end();
    }

    private static void newObject() {
        CHECK.promise(1);
        BaggageHandling x = new BaggageHandling();
        CHECK.due("positions()", x.positions(), 10);
        CHECK.due("tick()", x.tick(), 0);
        CHECK.due("tapeLength()", x.tapeLength(), 0);
        CHECK.due("flights()", x.flights(), 0);
        CHECK.due("bags()", x.bags(), 0);
        CHECK.due("undo()", x.undo(), I);
        for (int sort = 1; sort <= 6; sort++) {
            CHECK.due("devices(" + sort + ")", x.devices(sort), 0);
        }
        for (int p = 0; p < 10; p++) {
            CHECK.due("deviceAt(" + p + ")", x.deviceAt(p), 0);
            CHECK.due("recordLabel(" + p + ")", x.recordLabel(p), N);
        }
        for (int head = 0; head < 4; head++) {
            CHECK.due("setHead works already", x.setHead(head, true), false);
        }
        CHECK.due("map", Check.mapOf(x), "..........\n");
        CHECK.due("setup", Check.setupOf(x), "ring 10;window 1;passes 3;");
        CHECK.due("constants", BaggageHandling.INVALID * 10 + BaggageHandling.NOT_FOUND, -12);
    }

    private static void tape() {
        CHECK.promise(2);
        BaggageHandling x = new BaggageHandling();
        CHECK.due("append", x.append(0x72696e67, 0x20323b20, SPACES, SPACES, SPACES), 20);
        CHECK.due("load of ring 2", x.load(), I);
        CHECK.due("the first byte is the most significant", x.errorPosition(), 5);
        for (int i = 1; i <= 45; i++) {
            CHECK.due("append " + i, x.append(-1, 0, 1, Integer.MIN_VALUE, Integer.MAX_VALUE), 20 * i);
        }
        CHECK.due("append beyond 900", x.append(0, 0, 0, 0, 0), I);
        CHECK.due("nothing appended", x.tapeLength(), 900);
        CHECK.promise(3);
        CHECK.due("truncate(-1)", x.truncate(-1), I);
        CHECK.due("truncate(901)", x.truncate(901), I);
        CHECK.due("truncate(0)", x.truncate(0), 900);
        CHECK.due("truncate(19)", x.truncate(19), 881);
        CHECK.due("append would exceed", x.append(0, 0, 0, 0, 0), I);
        CHECK.due("truncate(1)", x.truncate(1), 880);
        CHECK.due("append fits", x.append(0, 0, 0, 0, 0), 900);
        CHECK.due("truncate(MAX)", x.truncate(Integer.MAX_VALUE), I);
        CHECK.due("truncate(900)", x.truncate(900), 0);
        CHECK.promise(52);
        CHECK.due("tapeLength()", x.tapeLength(), 0);
        Check.put(x, "ring 10;");
        CHECK.due("tapeLength()", x.tapeLength(), 8);
    }

    private static void loading() {
        CHECK.promise(4);
        BaggageHandling x = Check.plantAfter(15);
        x.setHead(2, false);
        Check.put(x, "ring 30;inlet 1;");
        CHECK.due("load()", x.load(), 30);
        CHECK.due("tapeLength()", x.tapeLength(), 0);
        CHECK.due("positions()", x.positions(), 30);
        CHECK.due("tick()", x.tick(), 0);
        CHECK.due("bags()", x.bags(), 0);
        CHECK.due("undo()", x.undo(), I);
        CHECK.due("heads work", x.setHead(2, true), false);
        for (int what = 0; what <= 7; what++) {
            CHECK.due("count", x.count(what), 0);
        }
        CHECK.due("no bag waits", x.waiting(0), 0);
        CHECK.due("map", Check.mapOf(x), ".".repeat(30) + "\n");
        Check.put(x, Check.PLANT);
        x.load();
        CHECK.due("the diverters are new", x.readyAt(13), 0);
        CHECK.due("the new bag is bag 0", x.checkIn(0, 7001, 15, 0, 0, 0), 0);
        CHECK.due("run", x.run(15), 1);
        loadingAgain();
    }

    /** What a longer ring and another setup left behind must not be seen in a shorter ring. */
    private static void loadingAgain() {
        BaggageHandling x = Check.loaded("ring 60;inlet 59;inlet 58;");
        x.checkIn(0, 7001, 15, 0, 0, 0);
        x.run(59);
        String plain = "ring 10;inlet 9;window 1;passes 3;";
        Check.put(x, plain);
        x.load();
        CHECK.due("bagAt(0)", x.bagAt(0), N);
        x.checkIn(0, 7001, 15, 0, 0, 0);
        x.run(2);
        CHECK.due("map", Check.mapOf(x), "a.........\n");
        for (String text : new String[] {Check.PLANT, plain, Check.PLANT}) {
            Check.put(x, text);
            x.load();
            CHECK.due("setup", Check.setupOf(x), text);
        }
        x.checkIn(0, 7001, 15, 0, 0, 0);
        CHECK.due("run", x.run(15), 1);
    }

    private static void failedLoading() {
        CHECK.promise(4);
        BaggageHandling x = Check.plantAfter(6);
        x.setHead(1, false);
        Check.put(x, "ring 30;inlet 30;");
        CHECK.due("load()", x.load(), I);
        CHECK.due("tapeLength()", x.tapeLength(), 0);
        CHECK.due("setup", Check.setupOf(x), Check.PLANT);
        CHECK.due("tick()", x.tick(), 6);
        CHECK.due("bagState(0)", x.bagState(0), 4);
        CHECK.due("flightNumber(2)", x.flightNumber(2), 9);
        CHECK.due("undo()", x.undo(), 2);
        CHECK.due("run after it", x.undo(), 1);
        CHECK.due("run after it", x.run(15), 1);
        CHECK.promise(5);
        CHECK.due("errorPosition()", x.errorPosition(), 14);
        Check.put(x, "ring 10;");
        CHECK.due("errorPosition() before the load", x.errorPosition(), 14);
        x.load();
        CHECK.due("errorPosition() after a good load", x.errorPosition(), N);
        CHECK.due("errorPosition() without a load", new BaggageHandling().errorPosition(), N);
    }

    private static void text(String marked) {
        CHECK.text(marked);
    }

    private static void syntaxErrors() {
        CHECK.promise(5);
        text("^");
        text("   ^");
        text("^;");
        text("^rin 10;");
        text("^rings 10;");
        text("^ringring 10;");
        text("^ringz 10;");
        text("^ringa 10;");
        text("^zring 10;");
        text("ring^`10;");
        text("ring^{10;");
        text("ring ^/10;");
        text("ring 10^:");
        text("^Ring 10;");
        text("ring^");
        text("ring  ^");
        text("ring ^;");
        text("ring ^ring 10;");
        text("ring 10^");
        text("ring 10 ^10;");
        text("ring 10^.;");
        text("ring 10;^;");
        text("ring 10;^foo");
        text("ring 10;^ring 10;");
        text("ring 10;\n^\tinlet 1;");
        text("ring 10;^\rinlet 1;");
        text("ring 10;^\u0000");
        text("ring 10;^\u00e9");
        text("ring 10;^\u00ff");
        text("ring 10;inlet^");
        text("ring 10;inlet 1^");
        text("ring 10;inlet 1 ^room 1;");
        text("ring 10;chute 1 ^switch 1;");
        text("ring 10;chute 1 room 1^;");
        text("ring 10;chute 1 room 1 switch 1 ^exit 2;");
        text("ring 10;screen 1 room 1 switch 1 ^time 1 1 1 exit 2;");
        text("ring 10;screen 1 room 1 switch 1 times 1 1 ^exit 2;");
        text("ring 10;screen 1 room 1 switch 1 times 1 1 1 ^1 exit 2;");
        text("ring 10;screen 1 room 1 switch 1 times 1 1 1^;");
        text("ring 10;store 1 room 1 switch 1 ^time 1 exit 2;");
        text("ring 10;station 1 room 1 switch 1 ^times 1 exit 2;");
        text("ring 10;station 1 room 1 switch 1 time 1^;");
        text("ring 10;chute 1 room 1 switch 1;flight 1 ^open 1 close 2;");
        text("ring 10;chute 1 room 1 switch 1;flight 1 chute 0 ^close 2;");
        text("ring 10;chute 1 room 1 switch 1;flight 1 chute 0 open 1^;");
        text("ring 10;chute 1 room 1 switch 1;flight 1 chute 0 open 1 close 2;^inlet 3;");
        text("ring 10;window 1;^flight 1");
        text("ring 10;window 1;^window 1;");
        text("ring 10;window 1;^inlet 1;");
        text("ring 10;passes 1;^window 1;");
        text("ring 10;passes 1;^passes 1;");
        text("ring 10;window 1;passes 1^");
        text("ring 10;^exit 1;");
        text("ring 10;^switch 1;");
    }

    private static void valueErrors() {
        CHECK.promise(5);
        text("ring ^9;");
        text("ring 10;");
        text("ring 60;");
        text("ring ^61;");
        text("ring 00010;");
        text("ring ^000010;");
        text("ring ^4294967306;");
        text("ring 10;inlet 9;");
        text("ring 10;inlet ^10;");
        text("ring 60;inlet 59;");
        text("ring 10;inlet 1;scanner ^1;");
        text("ring 10;inlet 1;scanner ^01;");
        text("ring 10;inlet 1;scanner 2;chute ^2 room 1 switch 1;");
        text("ring 10;store 1 room 1 switch 1 exit ^1;");
        text("ring 10;inlet 0;store 1 room 1 switch 1 exit ^0;");
        text("ring 10;store 1 room 1 switch 1 exit ^10;");
        text("ring 10;store 1 room 1 switch 1 exit 2;inlet ^2;");
        text("ring 10;store 1 room 1 switch 1 exit 2;station 3 room 1 switch 1 time 1 exit ^2;");
        text("ring 10;chute 1 room ^0 switch 1;");
        text("ring 10;chute 1 room 20 switch 1;");
        text("ring 10;chute 1 room ^21 switch 1;");
        text("ring 10;chute 1 room 1 switch ^0;");
        text("ring 10;chute 1 room 1 switch 9;");
        text("ring 10;chute 1 room 1 switch ^10;");
        text("ring 10;screen 1 room 1 switch 1 times ^0 1 1 exit 2;");
        text("ring 10;screen 1 room 1 switch 1 times 99 ^100 1 exit 2;");
        text("ring 10;screen 1 room 1 switch 1 times 99 99 ^0 exit 2;");
        text("ring 10;screen 1 room 1 switch 1 times 99 99 99 exit 2;");
        text("ring 10;station 1 room 1 switch 1 time ^0 exit 2;");
        text("ring 10;station 1 room 1 switch 1 time 99 exit 2;");
        text("ring 10;station 1 room 1 switch 1 time ^100 exit 2;");
        text("ring 10;flight 1 chute ^0 open 1 close 2;");
        String chute = "ring 10;chute 1 room 1 switch 1;";
        text(chute + "flight ^0 chute 0 open 1 close 2;");
        text(chute + "flight 999 chute 0 open 1 close 2;");
        text(chute + "flight ^1000 chute 0 open 1 close 2;");
        text(chute + "flight 1 chute ^1 open 1 close 2;");
        text(chute + "flight 1 chute 0 open 99998 close 99999;");
        text(chute + "flight 1 chute 0 open ^99999 close 99999;");
        text(chute + "flight 1 chute 0 open 1 close ^1;");
        text(chute + "flight 1 chute 0 open 1 close ^100000;");
        text(chute + "flight 1 chute 0 open 0 close 1;flight ^1 chute 0 open 0 close 1;");
        text(chute + "flight 1 chute 0 open 0 close 1;flight ^001 chute 0 open 0 close 1;");
        text("ring 10;window 0;");
        text("ring 10;window 3;");
        text("ring 10;window ^4;");
        text("ring 10;passes ^0;");
        text("ring 10;passes 9;");
        text("ring 10;passes ^10;");
    }

    private static void tooMany() {
        CHECK.promise(5);
        text("ring 10;inlet 0;inlet 1;inlet 2;^inlet 3;");
        text("ring 10;scanner 0;scanner 1;scanner 2;^scanner 2;");
        String chutes = "ring 30;";
        for (int i = 0; i < 6; i++) {
            chutes += "chute " + i + " room 1 switch 1;";
        }
        text(chutes);
        text(chutes + "^chute");
        text("ring 10;screen 0 room 1 switch 1 times 1 1 1 exit 1;screen 2 room 1 switch 1 times 1 1 1 exit 3;^screen 4");
        text("ring 10;store 0 room 1 switch 1 exit 1;store 2 room 1 switch 1 exit 3;^store 4");
        text("ring 10;station 0 room 1 switch 1 time 1 exit 1;station 2 room 1 switch 1 time 1 exit 3;^station 4");
        String flights = "ring 10;chute 0 room 1 switch 1;";
        for (int i = 1; i <= 10; i++) {
            flights += "flight " + i + " chute 0 open 0 close 1;";
        }
        text(flights);
        text(flights + "^flight 11");
    }

    private static void whiteSpace() {
        CHECK.promise(4);
        BaggageHandling x = Check.loaded(" \n ring012;inlet\n3 ;chute 5room 00020switch 9;\n\nflight 12chute 0 open 00003close 4;passes 2; \n");
        CHECK.due("positions()", x.positions(), 12);
        CHECK.due("setup", Check.setupOf(x), "ring 12;inlet 3;chute 5 room 20 switch 9;flight 12 chute 0 open 3 close 4;window 1;passes 2;");
    }

    private static void questions() {
        BaggageHandling x = Check.loaded(Check.PLANT);
        CHECK.promise(6);
        CHECK.due("positions()", x.positions(), 20);
        CHECK.promise(7);
        int[] sorts = {1, 0, 2, 0, 4, 7, 0, 6, 7, 0, 5, 7, 0, 3, 0, 3, 0, 0, 0, 0};
        for (int p = 0; p < 20; p++) {
            CHECK.due("deviceAt(" + p + ")", x.deviceAt(p), sorts[p]);
        }
        CHECK.due("deviceAt(-1)", x.deviceAt(-1), I);
        CHECK.due("deviceAt(20)", x.deviceAt(20), I);
        CHECK.due("deviceAt(MIN)", x.deviceAt(Integer.MIN_VALUE), I);
        CHECK.promise(8);
        int[] counts = {I, 1, 1, 2, 1, 1, 1, I};
        for (int sort = 0; sort <= 7; sort++) {
            CHECK.due("devices(" + sort + ")", x.devices(sort), counts[sort]);
        }
        CHECK.due("devices(-1)", x.devices(-1), I);
        CHECK.promise(9);
        CHECK.due("flights()", x.flights(), 3);
        CHECK.promise(10);
        CHECK.due("flightNumber(0)", x.flightNumber(0), 7);
        CHECK.due("flightNumber(2)", x.flightNumber(2), 9);
        CHECK.due("flightNumber(3)", x.flightNumber(3), I);
        CHECK.due("flightNumber(-1)", x.flightNumber(-1), I);
        CHECK.promise(11);
        x.run(49);
        CHECK.due("flightState(1) before the opening tick", x.flightState(1), 0);
        x.run(1);
        CHECK.due("flightState(1) at the opening tick", x.flightState(1), 1);
        x.run(249);
        CHECK.due("flightState(1) before the closing tick", x.flightState(1), 1);
        x.run(1);
        CHECK.due("flightState(1) at the closing tick", x.flightState(1), 2);
        CHECK.due("flightState(0)", x.flightState(0), 1);
        CHECK.due("flightState(3)", x.flightState(3), I);
        CHECK.due("flightState(-1)", x.flightState(-1), I);
    }

    private static void texts() {
        BaggageHandling x = Check.loaded(Check.PLANT);
        CHECK.promise(50);
        CHECK.due("setupLength()", x.setupLength(), Check.PLANT.length());
        CHECK.promise(51);
        CHECK.due("setup", Check.setupOf(x), Check.PLANT);
        CHECK.due("setupByte(-1)", x.setupByte(-1), I);
        CHECK.due("setupByte(length)", x.setupByte(Check.PLANT.length()), N);
        CHECK.due("setupByte(MAX)", x.setupByte(Integer.MAX_VALUE), N);
        String mixed = "ring 14;scanner 13;store 1 room 3 switch 4 exit 0;inlet 2;scanner 3;chute 12 room 1 switch 1;"
            + "inlet 11;flight 5 chute 0 open 10 close 100;flight 4 chute 0 open 0 close 99999;window 0;passes 9;";
        CHECK.due("the order of the text", Check.setupOf(Check.loaded(mixed)), mixed);
    }

    /** The setup text may be longer than the tape, since the tape needs no spaces. */
    private static void longestText() {
        CHECK.promise(50);
        StringBuilder s = new StringBuilder("ring 60;inlet 59;inlet 58;inlet 57;scanner 56;scanner 55;scanner 54;");
        for (int p = 53; p > 47; p--) {
            s.append("chute " + p + " room 20 switch 9;");
        }
        for (int p = 47; p > 43; p -= 2) {
            s.append("screen " + p + " room 20 switch 9 times 99 98 97 exit " + (p - 1) + ";");
        }
        for (int p = 43; p > 39; p -= 2) {
            s.append("store " + p + " room 20 switch 9 exit " + (p - 1) + ";");
        }
        for (int p = 39; p > 35; p -= 2) {
            s.append("station " + p + " room 20 switch 9 time 96 exit " + (p - 1) + ";");
        }
        for (int i = 0; i < 10; i++) {
            s.append("flight " + (999 - i) + " chute " + i % 6 + " open 9999" + i % 9 + " close 99999;");
        }
        String want = s.append("window 3;passes 8;").toString();
        BaggageHandling x = Check.loaded(want.replaceAll("([a-z]) ", "$1"));
        CHECK.due("setupLength()", x.setupLength(), 918);
        CHECK.due("setup", Check.setupOf(x), want);
    }
}
