/** The boundary cases of section 5 that are about scanners. */
final class ScannerBoundaries {
    private static final int N = Scene.N;
    private final Check c;

    private ScannerBoundaries(Check check) {
        c = check;
    }

    static void all(Check check) {
        ScannerBoundaries b = new ScannerBoundaries(check);
        b.windows();
        b.searchForARecord();
        b.orderOfTheSearchForARecord();
        b.recordIsMoved();
        b.recordsWithABag();
        b.recordIsMade();
        b.searchForABag();
        b.orderOfTheSearchForABag();
        b.recordIsMovedToABag();
        b.bagsWithARecord();
        b.recordIsDeleted();
        b.nothingElse();
        b.passes();
        b.codes();
        b.headsOutOfOrder();
        b.oneCode();
        b.oneCodeOfAFlight();
        b.ambiguousCodes();
        b.equalLabels();
        b.resultIsACode();
        b.conflicts();
        b.ambiguousResult();
        b.emptySet();
    }

    /**
     * A system whose next tick brings a bag to one position beside a scanner and its record, which is parted
     * from it, to another one: the places count from the scanner, negative ones are behind it.
     */
    private static BaggageHandling apart(int n, int scanner, int window, int bagPlace, int recordPlace) {
        // Next to the scanner the record can only get ahead of it through the scanner, with its bag.
        boolean scanned = recordPlace == 1;
        int inlet = Math.floorMod(scanner - 1 + (scanned ? 0 : recordPlace), n);
        BaggageHandling x = Scene.withBags("ring " + n + ";inlet " + inlet + ";scanner " + scanner + ";window " + window + ";", 1, 7001);
        x.run(scanned ? 2 : 1);
        Scene.slips(x, scanned ? scanner : inlet, Math.floorMod(recordPlace - bagPlace, n));
        return x;
    }

    private static final int[][] SCANNERS = {{10, 0}, {10, 1}, {10, 9}, {10, 8}, {60, 0}, {60, 59}, {23, 11}, {23, 2}, {23, 20}};

    private void windows() {
        c.says("Section 5", "Scanner: it treats the bag and the record at the position, with the tracking window w (0 to 3).");
        c.text("ring 10;window 0;");
        c.text("ring 10;window 3;");
        c.text("ring 10;window ^4;");
        BaggageHandling none = apart(20, 10, 0, 0, -1);
        none.run(1);
        c.due("window 0 finds nothing, a loss", none.count(0), 1);
        BaggageHandling widest = apart(20, 10, 3, 0, -3);
        widest.run(1);
        c.due("window 3 finds the record 3 behind, no loss", widest.count(0), 0);
        BaggageHandling farther = apart(20, 10, 3, 0, -4);
        farther.run(1);
        c.due("window 3 does not find the record 4 behind, a loss", farther.count(0), 1);
    }

    private void searchForARecord() {
        c.says("Section 5", "If there is a bag and no record: for d = 1, 2, ..., w, first the position d behind (p - d) and then"
            + " the position d ahead (p + d) is examined, with positions taken modulo n.");
        for (int[] ring : SCANNERS) {
            for (int window = 0; window <= 3; window++) {
                for (int place = -4; place <= 4; place++) {
                    if (place != 0) {
                        searchForARecord(ring[0], ring[1], window, place);
                    }
                }
            }
        }
    }

    private void searchForARecord(int n, int scanner, int window, int place) {
        BaggageHandling x = apart(n, scanner, window, 0, place);
        x.run(1);
        String what = "ring " + n + ", scanner " + scanner + ", window " + window + ", record at " + place + ": ";
        boolean found = Math.abs(place) <= window;
        int there = Math.floorMod(scanner + place, n);
        c.due(what + "the bag is at the scanner", x.bagAt(scanner), 0);
        c.due(what + "losses", x.count(0), found ? 0 : 1);
        c.due(what + "the record is gone from its place", x.recordLabel(there) == N, found);
        c.due(what + "the bag is read", x.recordLabel(scanner), 7001);
        c.due(what + "passes", x.passes(scanner), found && place == 1 ? 2 : 1);
        c.due(what + "ghosts", x.count(1), 0);
    }

    /** A bag at the scanner with a record behind it and one ahead of it; that one has been read. */
    private static BaggageHandling betweenRecords(int behind, int ahead) {
        BaggageHandling x = Check.loaded("ring 30;inlet 2;scanner 10;window 3;");
        Scene.bag(x, 7001);
        x.run(behind + ahead);
        x.checkIn(0, 0, 0, 0, 0, 0);
        Scene.runTo(x, 8 + ahead);
        x.takeOff(9 - behind);
        Scene.slips(x, 9 + ahead, ahead);
        x.run(1);
        return x;
    }

    private void orderOfTheSearchForARecord() {
        c.says("Section 5", "for d = 1, 2, ..., w, first the position d behind (p - d) and then the position d ahead (p + d) is examined");
        for (int d = 1; d <= 3; d++) {
            BaggageHandling same = betweenRecords(d, d);
            c.due("the one " + d + " behind is taken", same.recordLabel(10 - d), N);
            c.due("the one " + d + " ahead stays", same.recordLabel(10 + d), 7001);
            c.due("the passes of the one behind", same.passes(10), 1);
        }
        for (int d = 1; d <= 2; d++) {
            BaggageHandling ahead = betweenRecords(d + 1, d);
            c.due("the one " + (d + 1) + " behind stays", ahead.recordLabel(9 - d), 0);
            c.due("the one " + d + " ahead is taken", ahead.recordLabel(10 + d), N);
            c.due("the passes of the one ahead", ahead.passes(10), 2);
        }
        BaggageHandling behind = betweenRecords(1, 3);
        c.due("the one 1 behind is taken", behind.recordLabel(9), N);
        c.due("the one 3 ahead stays", behind.recordLabel(13), 7001);
    }

    private void recordIsMoved() {
        c.says("Section 5", "If a record without a bag is there, this record is moved to the position of the scanner, and the search ends.");
        BaggageHandling x = apart(20, 10, 3, 0, 1);
        c.due("it has been read once", x.passes(10), 1);
        x.run(1);
        c.due("the same record, read again", x.passes(10), 2);
        c.due("no other one is left", Scene.map(x), "..........c.........");
        BaggageHandling y = betweenRecords(1, 1);
        c.due("one of two is left", Scene.map(y), "..........co..................");
        c.due("no loss", y.count(0), 0);
    }

    /**
     * Four bags: the third one has slipped and is alone between two bags that have records. Then the bag alone
     * and a record alone come to the scanner.
     */
    private static BaggageHandling amongPairs() {
        BaggageHandling x = Scene.withBags("ring 20;inlet 0;scanner 6;window 1;", 3, 7001);
        x.run(3);
        x.slip(0);
        x.slip(1);
        x.slip(2);
        x.run(1);
        Scene.bag(x, 7001);
        x.run(1);
        return x;
    }

    private void recordsWithABag() {
        c.says("Section 5", "If a record without a bag is there, this record is moved to the position of the scanner");
        BaggageHandling x = amongPairs();
        c.due("a bag alone between two with records", Scene.map(x), "axaao...............");
        x.run(5);
        c.due("it gets a new record, the others keep theirs", Scene.map(x), ".....accc...........");
        c.due("a loss", x.count(0), 1);
    }

    private void recordIsMade() {
        c.says("Section 5", "If none is found, a new record (label 0, not cleared, no passes) is made there, and the loss"
            + " count increases by 1.");
        BaggageHandling x = Check.loaded("ring 20;inlet 0;scanner 1;screen 2 room 1 switch 1 times 1 1 1 exit 3;scanner 10;window 0;");
        x.checkIn(0, 7001, 1, 0, 0, 0);
        x.run(10);
        c.due("a cleared record, read once", Scene.map(x), ".........d..........");
        x.slip(9);
        x.setHead(0, false);
        x.run(2);
        c.due("label 0", x.recordLabel(10), 0);
        c.due("not cleared", x.isCleared(10), false);
        c.due("no passes but the one of this tick", x.passes(10), 1);
        c.due("a loss", x.count(0), 1);
        c.due("the old record was a ghost", x.count(1), 1);
        newRecordInAnOldPlace();
    }

    /** The bag alone is where a cleared record has left the ring with its bag: the new record has nothing of that one. */
    private void newRecordInAnOldPlace() {
        BaggageHandling x = Check.loaded("ring 20;inlet 0;scanner 1;screen 2 room 9 switch 1 times 1 1 1 exit 3;chute 8 room 9 switch 1;"
            + "scanner 12;"
            + "flight 7 chute 0 open 0 close 99;window 0;");
        Scene.bag(x, 0);
        Scene.bag(x, 7001);
        x.run(10);
        c.due("the second bag is in the chute, the first one is ahead of it", x.bagState(1) * 10 + x.bagPlace(0), 29);
        x.slip(9);
        x.run(4);
        c.due("label 0", x.recordLabel(12), 0);
        c.due("not cleared", x.isCleared(12), false);
        c.due("no passes but the one of this tick", x.passes(12), 1);
    }

    private void searchForABag() {
        c.says("Section 5", "If there is a record and no bag: the positions are examined in the same order.");
        for (int[] ring : SCANNERS) {
            for (int window = 0; window <= 3; window++) {
                for (int place = -4; place <= 4; place++) {
                    if (place != 0) {
                        searchForABag(ring[0], ring[1], window, place);
                    }
                }
            }
        }
    }

    private void searchForABag(int n, int scanner, int window, int place) {
        BaggageHandling x = apart(n, scanner, window, place, 0);
        x.run(1);
        String what = "ring " + n + ", scanner " + scanner + ", window " + window + ", bag at " + place + ": ";
        boolean found = Math.abs(place) <= window;
        int there = Math.floorMod(scanner + place, n);
        c.due(what + "the bag does not move", x.bagAt(there), 0);
        c.due(what + "the record is gone from the scanner", x.recordLabel(scanner), N);
        c.due(what + "the record of the bag", x.recordLabel(there), found ? 0 : N);
        c.due(what + "ghosts", x.count(1), found ? 0 : 1);
        c.due(what + "losses", x.count(0), 0);
    }

    /** A record at the scanner, whose own bag is alone behind it, and another bag that is alone ahead of it. */
    private static BaggageHandling betweenBags(int behind, int ahead) {
        BaggageHandling x = Check.loaded("ring 30;inlet 8;scanner 10;window 3;");
        Scene.bag(x, 7001);
        x.run(ahead + 1);
        x.checkIn(0, 0, 0, 0, 0, 0);
        x.run(2);
        x.slip(10 + ahead);
        Scene.slips(x, 9, behind);
        x.run(1);
        return x;
    }

    private void orderOfTheSearchForABag() {
        c.says("Section 5", "the positions are examined in the same order.");
        for (int d = 1; d <= 3; d++) {
            BaggageHandling same = betweenBags(d, d);
            c.due("the bag " + d + " behind gets it", same.bagAt(10 - d) * 10 + same.recordLabel(10 - d), 10);
            c.due("the bag " + d + " ahead does not", same.bagAt(10 + d) * 10 + same.recordLabel(10 + d), N);
        }
        for (int d = 1; d <= 2; d++) {
            BaggageHandling ahead = betweenBags(d + 1, d);
            c.due("the bag " + (d + 1) + " behind does not get it", ahead.bagAt(9 - d) * 10 + ahead.recordLabel(9 - d), 10 + N);
            c.due("the bag " + d + " ahead gets it", ahead.bagAt(10 + d) * 10 + ahead.recordLabel(10 + d), 0);
        }
        BaggageHandling behind = betweenBags(1, 3);
        c.due("the bag 1 behind gets it", behind.recordLabel(9), 0);
        c.due("the bag 3 ahead does not", behind.recordLabel(13), N);
    }

    private void recordIsMovedToABag() {
        c.says("Section 5", "If a bag without a record is there, the record is moved to it, and the search ends.");
        BaggageHandling x = betweenBags(1, 1);
        c.due("the one behind has it, the one ahead has none", Scene.map(x), ".........a.xo.................");
        c.due("no ghost", x.count(1), 0);
    }

    private void bagsWithARecord() {
        c.says("Section 5", "If a bag without a record is there, the record is moved to it");
        BaggageHandling x = amongPairs();
        x.run(2);
        c.due("a record alone comes behind no bag, the bag behind it has a record", Scene.map(x), "..axaa..............");
        c.due("a ghost", x.count(1), 1);
    }

    private void recordIsDeleted() {
        c.says("Section 5", "If none is found, the record is deleted, and the ghost count increases by 1.");
        BaggageHandling x = Scene.withBags("ring 12;inlet 0;scanner 1;window 3;", 2, 7001);
        x.run(2);
        x.takeOff(0);
        x.takeOff(1);
        x.run(1);
        c.due("the record is deleted", Scene.map(x), "..o.........");
        c.due("a ghost", x.count(1), 1);
        x.run(11);
        c.due("the other one, too", Scene.map(x), "............");
        c.due("two ghosts", x.count(1), 2);
        c.due("no loss", x.count(0), 0);
    }

    private void nothingElse() {
        c.says("Section 5", "In both cases the scanner does nothing else.");
        BaggageHandling x = apart(20, 10, 1, -1, 0);
        x.run(1);
        c.due("no pass is counted", x.passes(9), 0);
        c.due("no label is read", x.recordLabel(9), 0);
        x.run(1);
        c.due("a pass is counted in the next tick", x.passes(10), 1);
        c.due("and the label is read", x.recordLabel(10), 7001);
        BaggageHandling y = apart(20, 10, 0, -1, 0);
        y.run(1);
        c.due("no new record is made for a ghost", Scene.map(y), ".........x..........");
        c.due("no loss is counted with a ghost", y.count(0), 0);
    }

    private void passes() {
        c.says("Section 5", "If there are a bag and a record now, the passes of the record increase by 1, and the labels of the bag are read:"
            + " the set of codes has each label of the bag that is not 0 and that is seen by at least one head.");
        BaggageHandling x = Scene.withBags("ring 10;inlet 0;scanner 1;scanner 2;scanner 3;", 1, 7001);
        for (int passes = 0; passes <= 3; passes++) {
            x.run(1);
            c.due("at position " + passes, x.passes(passes), passes);
        }
        BaggageHandling found = apart(20, 10, 1, 0, -1);
        found.run(1);
        c.due("a record that was found", found.passes(10) * 10000 + found.recordLabel(10), 17001);
        BaggageHandling made = apart(20, 10, 0, 0, -1);
        made.run(1);
        c.due("a record that was made", made.passes(10) * 10000 + made.recordLabel(10), 17001);
    }

    private static final String FLIGHTS = "ring 20;inlet 0;scanner 1;scanner 3;scanner 5;chute 9 room 1 switch 1;"
        + "flight 7 chute 0 open 0 close 1;flight 8 chute 0 open 90 close 99;";

    /** What the first scanner makes of a bag, as recordLabel() tells. */
    private static int read(int first, int firstHeads, int second, int secondHeads) {
        BaggageHandling x = Check.loaded(FLIGHTS);
        x.checkIn(0, first, firstHeads, second, secondHeads, 0);
        x.run(2);
        return x.recordLabel(1);
    }

    private void codes() {
        c.says("Section 5", "the set of codes has each label of the bag that is not 0 and that is seen by at least one head.");
        c.due("no label", read(0, 15, 0, 15), 0);
        c.due("seen by no head", read(7001, 0, 8001, 0), 0);
        for (int head = 0; head < 4; head++) {
            c.due("the first label, seen by head " + head, read(7001, 1 << head, 0, 15), 7001);
            c.due("the second label, seen by head " + head, read(0, 15, 8001, 1 << head), 8001);
        }
        c.due("seen by all heads", read(7001, 15, 0, 0), 7001);
        c.due("the first label is not seen", read(7001, 0, 8001, 1), 8001);
        c.due("the second label is not seen", read(7001, 1, 8001, 0), 7001);
    }

    private void headsOutOfOrder() {
        c.says("Section 5", "Heads can be out of order (see setHead()); such a head sees nothing.");
        BaggageHandling x = Check.loaded(FLIGHTS);
        for (int head = 0; head < 3; head++) {
            x.setHead(head, false);
        }
        x.checkIn(0, 7001, 7, 8001, 8, 0);
        x.checkIn(0, 7001, 15, 0, 0, 0);
        x.run(3);
        c.due("only the label that the fourth head sees", x.recordLabel(2), 8001);
        c.due("one of all heads is enough", x.recordLabel(1), 7001);
        x.setHead(3, false);
        x.checkIn(0, 7001, 15, 8001, 15, 0);
        x.run(2);
        c.due("no head works", x.recordLabel(1), 0);
        c.due("that is a pass, too", x.passes(1), 1);
    }

    private void oneCode() {
        c.says("Section 5", "If the set has one code, that is the result.");
        c.due("of no flight", read(9001, 15, 0, 0), 9001);
        c.due("of a closed flight", read(7001, 15, 0, 0), 7001);
        c.due("of an early flight", read(0, 0, 8001, 15), 8001);
        c.due("the smallest label", read(1000, 15, 0, 0), 1000);
        c.due("the greatest label", read(999999, 15, 0, 0), 999999);
    }

    private void oneCodeOfAFlight() {
        c.says("Section 5", "If it has two different codes, the result is the one that belongs to a flight of the setup, if"
            + " exactly one of them does;");
        c.due("the first one, of a closed flight", read(7001, 1, 9001, 2), 7001);
        c.due("the second one, of a closed flight", read(9001, 1, 7001, 2), 7001);
        c.due("the first one, of an early flight", read(8999, 1, 9000, 2), 8999);
        c.due("the second one, of an early flight", read(6999, 1, 8000, 2), 8000);
    }

    private void ambiguousCodes() {
        c.says("Section 5", "otherwise the result is ambiguous.");
        c.due("of two flights", read(7001, 1, 8001, 2), 1);
        c.due("of one flight", read(7001, 1, 7002, 2), 1);
        c.due("of no flight", read(9001, 1, 9002, 2), 1);
        c.due("of no flight, and of another one", read(6001, 15, 5001, 15), 1);
    }

    private void equalLabels() {
        c.says("Section 5", "(Two equal labels are one code.)");
        c.due("of a flight", read(7001, 1, 7001, 2), 7001);
        c.due("of no flight", read(9001, 15, 9001, 15), 9001);
    }

    /** A bag with the labels 7001, which head 0 sees, and 8001, which head 1 sees; the heads of the first tick. */
    private static BaggageHandling twoLabels(boolean head0, boolean head1) {
        BaggageHandling x = Check.loaded(FLIGHTS);
        x.checkIn(0, 7001, 1, 8001, 2, 0);
        x.setHead(0, head0);
        x.setHead(1, head1);
        x.run(2);
        return x;
    }

    private void next(BaggageHandling x, boolean head0, boolean head1) {
        x.setHead(0, head0);
        x.setHead(1, head1);
        x.run(2);
    }

    private void resultIsACode() {
        c.says("Section 5", "If the result is a code, it becomes the label of the record;");
        BaggageHandling x = twoLabels(false, false);
        c.due("unread", x.recordLabel(1), 0);
        next(x, true, false);
        c.due("from unread", x.recordLabel(3), 7001);
        next(x, false, true);
        c.due("from another label", x.recordLabel(5), 8001);
        BaggageHandling y = twoLabels(true, true);
        c.due("ambiguous", y.recordLabel(1), 1);
        next(y, false, true);
        c.due("from ambiguous", y.recordLabel(3), 8001);
    }

    private void conflicts() {
        c.says("Section 5", "if the record had another label number before, the conflict count increases by 1.");
        BaggageHandling x = twoLabels(true, false);
        c.due("from unread: no conflict", x.count(2), 0);
        next(x, true, false);
        c.due("the same label: no conflict", x.count(2), 0);
        next(x, false, true);
        c.due("another label: a conflict", x.count(2), 1);
        BaggageHandling y = twoLabels(true, true);
        next(y, false, true);
        c.due("from ambiguous: no conflict", y.count(2), 0);
        next(y, true, false);
        c.due("another label: a conflict", y.count(2), 1);
        BaggageHandling z = twoLabels(true, false);
        next(z, true, true);
        next(z, false, false);
        c.due("an ambiguous result and an empty set: no conflict", z.count(2), 0);
        BaggageHandling edges = Check.loaded(FLIGHTS);
        edges.checkIn(0, 1000, 1, 999999, 2, 0);
        edges.setHead(1, false);
        edges.run(2);
        next(edges, false, true);
        c.due("from the least label to the greatest: a conflict", edges.count(2), 1);
        next(edges, true, false);
        c.due("and back: another one", edges.count(2), 2);
    }

    private void ambiguousResult() {
        c.says("Section 5", "If the result is ambiguous and the label of the record is 0, the label becomes -1.");
        BaggageHandling x = twoLabels(true, true);
        c.due("from a new record", x.recordLabel(1), 1);
        BaggageHandling y = twoLabels(false, false);
        next(y, true, true);
        c.due("from an unread one with a pass", y.recordLabel(3), 1);
        next(y, true, true);
        c.due("from ambiguous", y.recordLabel(5), 1);
        BaggageHandling z = twoLabels(false, true);
        next(z, true, true);
        c.due("a label number stays", z.recordLabel(3), 8001);
    }

    private void emptySet() {
        c.says("Section 5", "If the set is empty, the label stays.");
        BaggageHandling x = twoLabels(false, false);
        c.due("unread", x.recordLabel(1), 0);
        BaggageHandling y = twoLabels(true, true);
        next(y, false, false);
        c.due("ambiguous", y.recordLabel(3), 1);
        BaggageHandling z = twoLabels(true, false);
        next(z, false, false);
        c.due("a label number", z.recordLabel(3), 7001);
        c.due("the passes increase", z.passes(3), 2);
    }
}
