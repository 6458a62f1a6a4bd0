import java.util.Arrays;

/** The baggage handling system of an airport: a ring conveyor, its devices and the bags on their way. */
public final class BaggageHandling {
    public static final int INVALID = -1;
    public static final int NOT_FOUND = -2;

    /** No bag, no slot, no position, no flight: whatever an index could have named. */
    private static final int NONE = -1;

    private static final int MIN_POSITIONS = 10;
    private static final int MAX_POSITIONS = 60;
    private static final int MAX_BAGS = 100;
    private static final int MAX_FLIGHTS = 10;
    private static final int MAX_DEVICES = 18;
    private static final int MAX_OF_A_SORT = 6;
    private static final int TAPE_LIMIT = 900;
    /** The longest setup text has 918 bytes. */
    private static final int TEXT_LIMIT = 1024;
    private static final int MAX_DIGITS = 5;
    private static final int UNDO_LIMIT = 10;
    private static final int RUN_LIMIT = 300;
    private static final int LAST_TICK = 100000;
    private static final int LONGEST_DELAY = 30;
    private static final int HEADS = 4;
    private static final int ALL_HEADS = 15;
    private static final int LEVELS = 3;
    private static final int MAX_THREAT = 3;
    private static final int LABELS_OF_A_FLIGHT = 1000;
    private static final int MIN_LABEL = 1000;
    private static final int MAX_LABEL = 999999;

    // The sorts of devices, as deviceAt() answers them.
    private static final int NO_DEVICE = 0;
    private static final int INLET = 1;
    private static final int SCANNER = 2;
    private static final int CHUTE = 3;
    private static final int SCREEN = 4;
    private static final int STORE = 5;
    private static final int STATION = 6;
    private static final int EXIT = 7;
    /** How many devices of each sort a setup may have. */
    private static final int[] SORT_LIMITS = {0, 3, 3, 6, 2, 2, 2};

    // The states of bags, as bagState() answers them; a bag in the queue of a
    // screen, in a store or in the queue of a station has the sort of the device.
    private static final int WAITING = 0;
    private static final int RIDING = 1;
    private static final int IN_CHUTE = 2;
    private static final int LOADED = 3;
    private static final int AT_EXIT = 7;
    private static final int ASIDE = 8;
    private static final int SEIZED = 9;

    // The labels of records that are no label numbers.
    private static final int UNREAD = 0;
    private static final int AMBIGUOUS = -1;
    private static final int NO_RECORD = -2;

    // The destinations of records, as destination() answers them; screens, stores
    // and stations have the sort of the device.
    private static final int NO_GOAL = 0;
    private static final int FIRST_CHUTE_GOAL = 10;

    // The counts, as count() takes them.
    private static final int LOSSES = 0;
    private static final int GHOSTS = 1;
    private static final int CONFLICTS = 2;
    private static final int MISSES = 3;
    private static final int EMPTY_DIVERTINGS = 4;
    private static final int SET_ASIDE = 5;
    private static final int SEIZURES = 6;
    private static final int DELIVERIES = 7;
    private static final int COUNTS = 8;

    private final Tape tape;
    private final SetupReader reader;
    private final Text text;
    private final World world;
    /** The copy that forecasts run ahead; it is made once, since every run of calls lives in one room. */
    private final World ahead;
    private final History history;
    private Setup setup;
    /** The setup that the next load fills, so that a bad text leaves the present one alone. */
    private Setup spare;
    private int errorAt;

    public BaggageHandling() {
        tape = new Tape();
        reader = new SetupReader(tape);
        text = new Text();
        setup = new Setup();
        spare = new Setup();
        world = new World(setup);
        ahead = new World(setup);
        history = new History(setup);
        errorAt = NOT_FOUND;
        setup.describe(text);
    }

    // ---- setup

    public int append(int a, int b, int c, int d, int e) {
        if (tape.length + 20 > TAPE_LIMIT) {
            return INVALID;
        }
        tape.addWord(a);
        tape.addWord(b);
        tape.addWord(c);
        tape.addWord(d);
        tape.addWord(e);
        return tape.length;
    }

    public int truncate(int n) {
        if (n < 0 || n > tape.length) {
            return INVALID;
        }
        tape.length -= n;
        return tape.length;
    }

    public int load() {
        boolean good = reader.readInto(spare);
        errorAt = good ? NOT_FOUND : tape.start;
        tape.length = 0;
        if (!good) {
            return INVALID;
        }
        Setup former = setup;
        setup = spare;
        spare = former;
        setup.describe(text);
        world.begin(setup);
        history.forget();
        return setup.positions;
    }

    public int errorPosition() {
        return errorAt;
    }

    public int positions() {
        return setup.positions;
    }

    public int deviceAt(int position) {
        return setup.hasPosition(position) ? setup.sorts[position] : INVALID;
    }

    public int devices(int sort) {
        return sort >= INLET && sort <= STATION ? setup.counts[sort] : INVALID;
    }

    public int flights() {
        return setup.flights.count;
    }

    public int flightNumber(int flight) {
        return setup.flights.has(flight) ? setup.flights.numbers[flight] : INVALID;
    }

    public int flightState(int flight) {
        if (!setup.flights.has(flight)) {
            return INVALID;
        }
        if (world.now < setup.flights.openings[flight]) {
            return 0;
        }
        return world.now < setup.flights.closings[flight] ? 1 : 2;
    }

    // ---- operations

    public int checkIn(int inlet, int first, int firstHeads, int second, int secondHeads, int threat) {
        int position = setup.placeOf(INLET, inlet);
        if (position == NONE || !isLabel(first) || !isLabel(second)) {
            return INVALID;
        }
        if (!isWithin(firstHeads, 0, ALL_HEADS) || !isWithin(secondHeads, 0, ALL_HEADS)
                || !isWithin(threat, 0, MAX_THREAT)) {
            return INVALID;
        }
        if (world.bags.count >= MAX_BAGS) {
            return NOT_FOUND;
        }
        history.save(world);
        int bag = world.addBag(position);
        world.bags.describe(bag, first, firstHeads, second, secondHeads, threat);
        return bag;
    }

    public int run(int ticks) {
        if (!isWithin(ticks, 1, RUN_LIMIT) || world.now + ticks > LAST_TICK) {
            return INVALID;
        }
        history.save(world);
        return world.deliveriesWithin(ticks);
    }

    public boolean slip(int position) {
        if (!setup.hasPosition(position)) {
            return false;
        }
        int slot = world.slotAt(position);
        int behind = world.wrapped(slot - 1);
        int bag = world.riders[slot];
        if (bag < 0 || world.riders[behind] >= 0) {
            return false;
        }
        history.save(world);
        world.riders[slot] = NONE;
        world.riders[behind] = bag;
        world.bags.put(bag, RIDING, behind);
        return true;
    }

    public int takeOff(int position) {
        if (!setup.hasPosition(position)) {
            return INVALID;
        }
        int slot = world.slotAt(position);
        int bag = world.riders[slot];
        if (bag < 0) {
            return NOT_FOUND;
        }
        history.save(world);
        world.riders[slot] = NONE;
        world.setAside(bag);
        return bag;
    }

    public boolean setHead(int head, boolean works) {
        if (!isWithin(head, 0, HEADS - 1)) {
            return false;
        }
        int bit = 1 << head;
        boolean worksNow = (world.heads & bit) != 0;
        if (worksNow == works) {
            return false;
        }
        history.save(world);
        world.heads ^= bit;
        return true;
    }

    public int loadChute(int chute) {
        int position = setup.placeOf(CHUTE, chute);
        if (position == NONE) {
            return INVALID;
        }
        int size = world.queues.sizes[position];
        if (size == 0) {
            return NOT_FOUND;
        }
        history.save(world);
        for (int i = 0; i < size; i++) {
            int bag = world.queues.takeFirst(position);
            if (bag >= 0) {
                world.bags.put(bag, LOADED, chute);
            }
        }
        return size;
    }

    public int undo() {
        if (history.count == 0) {
            return INVALID;
        }
        history.restoreInto(world);
        return history.count;
    }

    // ---- state

    public int tick() {
        return world.now;
    }

    public int bagAt(int position) {
        if (!setup.hasPosition(position)) {
            return INVALID;
        }
        int bag = world.riders[world.slotAt(position)];
        return bag < 0 ? NOT_FOUND : bag;
    }

    public int recordLabel(int position) {
        if (!setup.hasPosition(position)) {
            return INVALID;
        }
        int label = world.belt.labels[world.slotAt(position)];
        if (label == NO_RECORD) {
            return NOT_FOUND;
        }
        return label == AMBIGUOUS ? 1 : label;
    }

    public boolean isCleared(int position) {
        if (!setup.hasPosition(position)) {
            return false;
        }
        int slot = world.slotAt(position);
        return world.belt.has(slot) && world.belt.cleared[slot] != 0;
    }

    public int passes(int position) {
        if (!setup.hasPosition(position)) {
            return INVALID;
        }
        int slot = world.slotAt(position);
        return world.belt.has(slot) ? world.belt.passes[slot] : NOT_FOUND;
    }

    public int destination(int position) {
        if (!setup.hasPosition(position)) {
            return INVALID;
        }
        int slot = world.slotAt(position);
        return world.belt.has(slot) ? world.goalOf(slot) : NOT_FOUND;
    }

    public int bags() {
        return world.bags.count;
    }

    public int bagState(int bag) {
        return world.bags.has(bag) ? world.bags.states[bag] : INVALID;
    }

    public int bagPlace(int bag) {
        if (!world.bags.has(bag)) {
            return INVALID;
        }
        int state = world.bags.states[bag];
        if (state == ASIDE || state == SEIZED) {
            return NOT_FOUND;
        }
        int place = world.bags.places[bag];
        return state == RIDING ? world.positionOf(place) : place;
    }

    public int deliveredAt(int bag) {
        if (!world.bags.has(bag)) {
            return INVALID;
        }
        return world.bags.isDelivered(bag) ? world.bags.deliveryTicks[bag] : NOT_FOUND;
    }

    public int properLabel(int bag) {
        if (!world.bags.has(bag)) {
            return INVALID;
        }
        int label = world.usableLabel(bag);
        return label == UNREAD ? NOT_FOUND : label;
    }

    public int waiting(int inlet) {
        return sizeAt(setup.placeOf(INLET, inlet));
    }

    public int chuteSize(int chute) {
        return sizeAt(setup.placeOf(CHUTE, chute));
    }

    public int screenSize(int screen) {
        return sizeAt(setup.placeOf(SCREEN, screen));
    }

    public int screenLevel(int screen) {
        int position = setup.placeOf(SCREEN, screen);
        if (position == NONE) {
            return INVALID;
        }
        return world.queues.sizes[position] == 0 ? 0 : world.levels[position];
    }

    public int storeSize(int store) {
        return sizeAt(setup.placeOf(STORE, store));
    }

    public int stationSize(int station) {
        return sizeAt(setup.placeOf(STATION, station));
    }

    public int exitSize(int position) {
        if (!setup.hasPosition(position) || setup.sorts[position] != EXIT) {
            return INVALID;
        }
        return world.queues.sizes[position];
    }

    public int readyAt(int position) {
        if (!setup.hasPosition(position) || !isOutlet(setup.sorts[position])) {
            return INVALID;
        }
        return world.readyTicks[position];
    }

    public int onRing() {
        return world.ridersWith(true) + world.ridersWith(false);
    }

    public int untracked() {
        return world.ridersWith(false);
    }

    public int count(int what) {
        return isWithin(what, 0, COUNTS - 1) ? world.counts[what] : INVALID;
    }

    public int misrouted(int chute) {
        if (setup.placeOf(CHUTE, chute) == NONE) {
            return INVALID;
        }
        int strays = 0;
        for (int bag = 0; bag < world.bags.count; bag++) {
            if (world.bags.isDelivered(bag) && world.bags.places[bag] == chute && world.isStray(bag, chute)) {
                strays++;
            }
        }
        return strays;
    }

    public int delivered(int flight) {
        if (!setup.flights.has(flight)) {
            return INVALID;
        }
        int found = 0;
        for (int bag = 0; bag < world.bags.count; bag++) {
            if (world.bags.isDelivered(bag) && world.bags.deliveryFlights[bag] == flight) {
                found++;
            }
        }
        return found;
    }

    // ---- forecasts

    public int ticksToChute(int bag, int limit) {
        if (!world.bags.has(bag) || !isWithin(limit, 1, RUN_LIMIT)) {
            return INVALID;
        }
        ahead.copyFrom(world);
        return ahead.ticksUntilDelivered(bag, limit);
    }

    public int forecastState(int bag, int ticks) {
        if (!world.bags.has(bag) || !isWithin(ticks, 1, RUN_LIMIT)) {
            return INVALID;
        }
        ahead.copyFrom(world);
        ahead.deliveriesWithin(ticks);
        return ahead.bags.states[bag];
    }

    public int forecastDelivered(int ticks) {
        if (!isWithin(ticks, 1, RUN_LIMIT)) {
            return INVALID;
        }
        ahead.copyFrom(world);
        return ahead.deliveriesWithin(ticks);
    }

    public int bestInlet(int flight, int limit) {
        if (!setup.flights.has(flight) || !isWithin(limit, 1, RUN_LIMIT)) {
            return INVALID;
        }
        if (world.bags.count >= MAX_BAGS) {
            return NOT_FOUND;
        }
        int best = NOT_FOUND;
        int bound = limit;
        for (int inlet = 0; inlet < setup.counts[INLET]; inlet++) {
            ahead.copyFrom(world);
            int bag = addTrialBag(flight, inlet);
            int ticks = ahead.ticksUntilDelivered(bag, bound);
            if (ticks != NOT_FOUND) {
                best = inlet;
                // A later inlet must be sooner than this one to be better.
                bound = ticks - 1;
            }
        }
        return best;
    }

    public int latestDelay(int flight, int inlet) {
        if (!setup.flights.has(flight) || setup.placeOf(INLET, inlet) == NONE) {
            return INVALID;
        }
        if (world.bags.count >= MAX_BAGS) {
            return NOT_FOUND;
        }
        for (int delay = LONGEST_DELAY; delay >= 0; delay--) {
            if (arrivesInTime(flight, inlet, delay)) {
                return delay;
            }
        }
        return NOT_FOUND;
    }

    // ---- texts

    public int mapLength() {
        return setup.positions + 1;
    }

    public int mapByte(int i) {
        if (i < 0) {
            return INVALID;
        }
        if (i > setup.positions) {
            return NOT_FOUND;
        }
        return i == setup.positions ? '\n' : world.signOf(world.slotAt(i));
    }

    public int setupLength() {
        return text.length;
    }

    public int setupByte(int i) {
        if (i < 0) {
            return INVALID;
        }
        return i < text.length ? text.bytes[i] : NOT_FOUND;
    }

    public int tapeLength() {
        return tape.length;
    }

    // ---- helpers of the calls

    private static boolean isWithin(int value, int low, int high) {
        return value >= low && value <= high;
    }

    private static boolean isLabel(int label) {
        return label == 0 || isWithin(label, MIN_LABEL, MAX_LABEL);
    }

    private static boolean isOutlet(int sort) {
        return isWithin(sort, CHUTE, STATION);
    }

    /** Every outlet but a chute gives its bags back. */
    private static boolean hasExit(int sort) {
        return isOutlet(sort) && sort != CHUTE;
    }

    /** The keyword of a sort of devices. */
    private static String wordOf(int sort) {
        switch (sort) {
            case INLET:
                return "inlet";
            case SCANNER:
                return "scanner";
            case CHUTE:
                return "chute";
            case SCREEN:
                return "screen";
            case STORE:
                return "store";
            default:
                return "station";
        }
    }

    private int sizeAt(int position) {
        return position == NONE ? INVALID : world.queues.sizes[position];
    }

    /** Checks the additional bag of bestInlet() and latestDelay() in, in the copy that runs ahead. */
    private int addTrialBag(int flight, int inlet) {
        int bag = ahead.addBag(setup.placeOf(INLET, inlet));
        int label = setup.flights.numbers[flight] * LABELS_OF_A_FLIGHT;
        ahead.bags.describe(bag, label, ALL_HEADS, 0, 0, 0);
        return bag;
    }

    private boolean arrivesInTime(int flight, int inlet, int delay) {
        int ticksLeft = setup.flights.closings[flight] - 1 - (world.now + delay);
        if (ticksLeft < 1) {
            return false;
        }
        ahead.copyFrom(world);
        ahead.deliveriesWithin(delay);
        int bag = addTrialBag(flight, inlet);
        int ticks = ahead.ticksUntilDelivered(bag, Math.min(RUN_LIMIT, ticksLeft));
        return ticks != NOT_FOUND && ahead.bags.places[bag] == setup.flights.chutes[flight];
    }

    /** The bytes that append() gathers, and the tokens in them. */
    private static final class Tape {
        final byte[] bytes = new byte[TAPE_LIMIT];
        int length;
        /** The token that is looked at: its first byte and the byte behind it; both are the length at the end. */
        int start;
        int end;
        /** The value of the token, if it is an INT; NONE otherwise. */
        int value;

        void addWord(int word) {
            for (int shift = 24; shift >= 0; shift -= 8) {
                if (length < TAPE_LIMIT) {
                    bytes[length] = (byte) (word >>> shift);
                    length++;
                }
            }
        }

        /** Looks at the token that begins at a byte or behind the white space there. */
        void findToken(int from) {
            start = from;
            while (start < length && (bytes[start] == ' ' || bytes[start] == '\n')) {
                start++;
            }
            end = start;
            while (end < length && bytes[end] >= 'a' && bytes[end] <= 'z') {
                end++;
            }
            boolean isWord = end > start;
            int sum = 0;
            while (!isWord && end < length && bytes[end] >= '0' && bytes[end] <= '9') {
                // A run that is too long may overflow here, but then its value is not used.
                sum = sum * 10 + (bytes[end] - '0');
                end++;
            }
            boolean isNumber = !isWord && end > start && end - start <= MAX_DIGITS;
            value = isNumber ? sum : NONE;
            if (end == start && end < length) {
                end++;
            }
        }

        boolean isAtEnd() {
            return start >= length;
        }

        boolean isAtWord(String word) {
            if (end - start != word.length()) {
                return false;
            }
            for (int i = 0; i < word.length(); i++) {
                if (start + i >= length || bytes[start + i] != word.charAt(i)) {
                    return false;
                }
            }
            return true;
        }

        boolean takeWord(String word) {
            boolean found = isAtWord(word);
            if (found) {
                findToken(end);
            }
            return found;
        }

        /** Takes an INT of a range; answers NONE if there is no such one. */
        int takeValue(int low, int high) {
            int found = value;
            if (found < low || found > high) {
                return NONE;
            }
            findToken(end);
            return found;
        }

        /** Takes a keyword and the INT behind it; answers NONE if one of them cannot stand. */
        int takeNamed(String word, int low, int high) {
            if (!isAtWord(word)) {
                return NONE;
            }
            findToken(end);
            return takeValue(low, high);
        }
    }

    /** Reads the setup text. Each step stops at the token that cannot stand, so the tape's token is the error. */
    private static final class SetupReader {
        private final Tape tape;
        private Setup setup;

        SetupReader(Tape tape) {
            this.tape = tape;
        }

        boolean readInto(Setup target) {
            setup = target;
            setup.clear();
            tape.findToken(0);
            int positions = tape.takeNamed("ring", MIN_POSITIONS, MAX_POSITIONS);
            if (positions == NONE) {
                return false;
            }
            setup.positions = positions;
            if (!tape.takeWord(";") || !readDevices() || !readFlights() || !readWindow() || !readPassLimit()) {
                return false;
            }
            setup.listBusyPositions();
            return tape.isAtEnd();
        }

        private boolean readDevices() {
            for (int i = 0; i <= MAX_DEVICES; i++) {
                int sort = sortOfToken();
                if (sort == NO_DEVICE) {
                    return true;
                }
                if (setup.counts[sort] >= SORT_LIMITS[sort]) {
                    return false;
                }
                tape.findToken(tape.end);
                if (!readDevice(sort)) {
                    return false;
                }
            }
            return false;
        }

        private int sortOfToken() {
            for (int sort = INLET; sort <= STATION; sort++) {
                if (tape.isAtWord(wordOf(sort))) {
                    return sort;
                }
            }
            return NO_DEVICE;
        }

        private boolean readDevice(int sort) {
            int position = readFreePosition();
            if (position == NONE) {
                return false;
            }
            setup.addDevice(sort, position);
            if (isOutlet(sort) && !readDiverter(position)) {
                return false;
            }
            if (sort == SCREEN && !readLevelTimes(position)) {
                return false;
            }
            if (sort == STATION && !readWorkingTime(position)) {
                return false;
            }
            if (hasExit(sort) && !readExit(position)) {
                return false;
            }
            return tape.takeWord(";");
        }

        private int readFreePosition() {
            int position = tape.value;
            if (!setup.hasPosition(position) || setup.sorts[position] != NO_DEVICE) {
                return NONE;
            }
            tape.findToken(tape.end);
            return position;
        }

        private boolean readDiverter(int position) {
            int room = tape.takeNamed("room", 1, 20);
            if (room == NONE) {
                return false;
            }
            setup.rooms[position] = room;
            int switching = tape.takeNamed("switch", 1, 9);
            setup.switchings[position] = switching;
            return switching != NONE;
        }

        private boolean readLevelTimes(int position) {
            if (!tape.takeWord("times")) {
                return false;
            }
            for (int level = 1; level <= LEVELS; level++) {
                int time = tape.takeValue(1, 99);
                if (time == NONE) {
                    return false;
                }
                setup.times[level][position] = time;
            }
            return true;
        }

        private boolean readWorkingTime(int position) {
            int time = tape.takeNamed("time", 1, 99);
            setup.times[1][position] = time;
            return time != NONE;
        }

        private boolean readExit(int position) {
            if (!tape.takeWord("exit")) {
                return false;
            }
            int exit = readFreePosition();
            if (exit == NONE) {
                return false;
            }
            setup.exits[position] = exit;
            setup.sorts[exit] = EXIT;
            return true;
        }

        private boolean readFlights() {
            for (int i = 0; i <= MAX_FLIGHTS; i++) {
                if (!tape.isAtWord("flight")) {
                    return true;
                }
                if (setup.flights.count >= MAX_FLIGHTS) {
                    return false;
                }
                tape.findToken(tape.end);
                if (!readFlight()) {
                    return false;
                }
            }
            return false;
        }

        private boolean readFlight() {
            int number = tape.value;
            if (!isWithin(number, 1, 999) || setup.flights.ofLabel(number * LABELS_OF_A_FLIGHT) != NONE) {
                return false;
            }
            tape.findToken(tape.end);
            int chute = tape.takeNamed("chute", 0, setup.counts[CHUTE] - 1);
            if (chute == NONE) {
                return false;
            }
            int opening = tape.takeNamed("open", 0, 99998);
            if (opening == NONE) {
                return false;
            }
            int closing = tape.takeNamed("close", opening + 1, 99999);
            if (closing == NONE) {
                return false;
            }
            setup.flights.add(number, chute, opening, closing);
            return tape.takeWord(";");
        }

        private boolean readWindow() {
            if (!tape.isAtWord("window")) {
                return true;
            }
            setup.window = tape.takeNamed("window", 0, 3);
            return setup.window != NONE && tape.takeWord(";");
        }

        private boolean readPassLimit() {
            if (!tape.isAtWord("passes")) {
                return true;
            }
            setup.passLimit = tape.takeNamed("passes", 1, 9);
            return setup.passLimit != NONE && tape.takeWord(";");
        }
    }

    /** A text of tokens: one space between two of them, but none beside a semicolon. */
    private static final class Text {
        final byte[] bytes = new byte[TEXT_LIMIT];
        int length;

        private void addSign(int sign) {
            if (length < TEXT_LIMIT) {
                bytes[length] = (byte) sign;
                length++;
            }
        }

        private void separate() {
            if (length > 0 && length <= TEXT_LIMIT && bytes[length - 1] != ';') {
                addSign(' ');
            }
        }

        void addName(String name) {
            separate();
            for (int i = 0; i < name.length(); i++) {
                addSign(name.charAt(i));
            }
        }

        void addValue(int value) {
            separate();
            for (int unit = 10000; unit >= 1; unit /= 10) {
                if (value >= unit || unit == 1) {
                    addSign('0' + value / unit % 10);
                }
            }
        }

        void addNamed(String name, int value) {
            addName(name);
            addValue(value);
        }

        void endClause() {
            addSign(';');
        }
    }

    /** The flights of a setup. */
    private static final class Flights {
        int count;
        final int[] numbers = new int[MAX_FLIGHTS];
        final int[] chutes = new int[MAX_FLIGHTS];
        final int[] openings = new int[MAX_FLIGHTS];
        final int[] closings = new int[MAX_FLIGHTS];

        void add(int number, int chute, int opening, int closing) {
            if (count < MAX_FLIGHTS) {
                numbers[count] = number;
                chutes[count] = chute;
                openings[count] = opening;
                closings[count] = closing;
                count++;
            }
        }

        boolean has(int flight) {
            return flight >= 0 && flight < count;
        }

        /** The flight of a label; no flight has the number 0, so the labels that are no numbers find none. */
        int ofLabel(int label) {
            int number = label / LABELS_OF_A_FLIGHT;
            for (int flight = 0; flight < count; flight++) {
                if (numbers[flight] == number) {
                    return flight;
                }
            }
            return NONE;
        }
    }

    /** What a setup text says: the devices by their positions, the flights, the window and the pass limit. */
    private static final class Setup {
        int positions;
        int window;
        int passLimit;
        final Flights flights = new Flights();
        final int[] sorts = new int[MAX_POSITIONS];
        /** The number that the device at a position has among those of its sort. */
        final int[] numbers = new int[MAX_POSITIONS];
        final int[] rooms = new int[MAX_POSITIONS];
        final int[] switchings = new int[MAX_POSITIONS];
        final int[] exits = new int[MAX_POSITIONS];
        /** The working times by level and position; a station has its own at level 1. */
        final int[][] times = new int[LEVELS + 1][MAX_POSITIONS];
        final int[] counts = new int[STATION + 1];
        /** The positions of the devices by sort and number. */
        final int[][] places = new int[STATION + 1][MAX_OF_A_SORT];
        /** The positions of the devices in the order of the text. */
        final int[] order = new int[MAX_DEVICES];
        int orderLength;
        /** The positions with a device or an exit, ascending: a tick need not look at the others. */
        final int[] busy = new int[MAX_POSITIONS];
        int busyLength;

        Setup() {
            clear();
        }

        void clear() {
            positions = MIN_POSITIONS;
            window = 1;
            passLimit = 3;
            flights.count = 0;
            Arrays.fill(sorts, NO_DEVICE);
            Arrays.fill(counts, 0);
            orderLength = 0;
            busyLength = 0;
        }

        boolean hasPosition(int position) {
            return position >= 0 && position < positions;
        }

        void addDevice(int sort, int position) {
            int number = counts[sort];
            if (number >= MAX_OF_A_SORT || orderLength >= MAX_DEVICES) {
                return;
            }
            sorts[position] = sort;
            numbers[position] = number;
            places[sort][number] = position;
            counts[sort] = number + 1;
            order[orderLength] = position;
            orderLength++;
        }

        void listBusyPositions() {
            for (int position = 0; position < positions; position++) {
                if (sorts[position] != NO_DEVICE) {
                    busy[busyLength] = position;
                    busyLength++;
                }
            }
        }

        /** The position of a device, or NONE if there is none of this number. */
        int placeOf(int sort, int number) {
            return number >= 0 && number < counts[sort] ? places[sort][number] : NONE;
        }

        void describe(Text text) {
            text.length = 0;
            text.addNamed("ring", positions);
            text.endClause();
            for (int i = 0; i < orderLength; i++) {
                describeDevice(text, order[i]);
            }
            for (int flight = 0; flight < flights.count; flight++) {
                describeFlight(text, flight);
            }
            text.addNamed("window", window);
            text.endClause();
            text.addNamed("passes", passLimit);
            text.endClause();
        }

        private void describeDevice(Text text, int position) {
            int sort = sorts[position];
            text.addNamed(wordOf(sort), position);
            if (isOutlet(sort)) {
                text.addNamed("room", rooms[position]);
                text.addNamed("switch", switchings[position]);
            }
            if (sort == SCREEN) {
                text.addName("times");
                for (int level = 1; level <= LEVELS; level++) {
                    text.addValue(times[level][position]);
                }
            }
            if (sort == STATION) {
                text.addNamed("time", times[1][position]);
            }
            if (hasExit(sort)) {
                text.addNamed("exit", exits[position]);
            }
            text.endClause();
        }

        private void describeFlight(Text text, int flight) {
            text.addNamed("flight", flights.numbers[flight]);
            text.addNamed("chute", flights.chutes[flight]);
            text.addNamed("open", flights.openings[flight]);
            text.addNamed("close", flights.closings[flight]);
            text.endClause();
        }
    }

    /** A row of places that hold a record each, or none. */
    private static final class Records {
        final int[] labels;
        final int[] passes;
        /** 1 for a record that is cleared, 0 for another. */
        final int[] cleared;

        Records(int size) {
            int length = Math.max(size, 0);
            labels = new int[length];
            passes = new int[length];
            cleared = new int[length];
            Arrays.fill(labels, NO_RECORD);
        }

        void copyFrom(Records other) {
            System.arraycopy(other.labels, 0, labels, 0, labels.length);
            System.arraycopy(other.passes, 0, passes, 0, passes.length);
            System.arraycopy(other.cleared, 0, cleared, 0, cleared.length);
        }

        void removeAll() {
            Arrays.fill(labels, NO_RECORD);
        }

        boolean has(int place) {
            return labels[place] != NO_RECORD;
        }

        void makeAt(int place) {
            labels[place] = UNREAD;
            passes[place] = 0;
            cleared[place] = 0;
        }

        void removeAt(int place) {
            labels[place] = NO_RECORD;
        }

        void moveIn(int place, Records other, int otherPlace) {
            labels[place] = other.labels[otherPlace];
            passes[place] = other.passes[otherPlace];
            cleared[place] = other.cleared[otherPlace];
            other.labels[otherPlace] = NO_RECORD;
        }
    }

    /** The bags that wait or stay at each position, in the order in which they came. */
    private static final class Queues {
        final int[] firsts = new int[MAX_POSITIONS];
        final int[] lasts = new int[MAX_POSITIONS];
        final int[] sizes = new int[MAX_POSITIONS];
        /** The bag behind a bag; a bag is in one queue at most. */
        final int[] nexts = new int[MAX_BAGS];

        void copyFrom(Queues other) {
            System.arraycopy(other.firsts, 0, firsts, 0, MAX_POSITIONS);
            System.arraycopy(other.lasts, 0, lasts, 0, MAX_POSITIONS);
            System.arraycopy(other.sizes, 0, sizes, 0, MAX_POSITIONS);
            System.arraycopy(other.nexts, 0, nexts, 0, MAX_BAGS);
        }

        void removeAll() {
            Arrays.fill(firsts, NONE);
            Arrays.fill(lasts, NONE);
            Arrays.fill(sizes, 0);
        }

        void add(int position, int bag) {
            int last = lasts[position];
            if (last < 0) {
                firsts[position] = bag;
            } else {
                nexts[last] = bag;
            }
            nexts[bag] = NONE;
            lasts[position] = bag;
            sizes[position]++;
        }

        /** Takes the first bag out of a queue; answers NONE if the queue is empty. */
        int takeFirst(int position) {
            int bag = firsts[position];
            if (bag >= 0) {
                takeBehind(position, NONE, bag);
            }
            return bag;
        }

        /** Takes a bag out of a queue; the bag before it is NONE if it is the first one. */
        void takeBehind(int position, int before, int bag) {
            int next = nexts[bag];
            if (before < 0) {
                firsts[position] = next;
            } else {
                nexts[before] = next;
            }
            if (next < 0) {
                lasts[position] = before;
            }
            sizes[position]--;
        }
    }

    /** The bags: what they bring along, and where they are. */
    private static final class Bags {
        int count;
        final int[] firstLabels = new int[MAX_BAGS];
        final int[] firstHeads = new int[MAX_BAGS];
        final int[] secondLabels = new int[MAX_BAGS];
        final int[] secondHeads = new int[MAX_BAGS];
        final int[] threats = new int[MAX_BAGS];
        final int[] states = new int[MAX_BAGS];
        /** The slot of a bag that rides; for the others what bagPlace() answers. */
        final int[] places = new int[MAX_BAGS];
        final int[] deliveryTicks = new int[MAX_BAGS];
        /** The flight for which delivered() counts a bag that came into a chute, or NONE. */
        final int[] deliveryFlights = new int[MAX_BAGS];

        void copyFrom(Bags other) {
            count = other.count;
            System.arraycopy(other.firstLabels, 0, firstLabels, 0, MAX_BAGS);
            System.arraycopy(other.firstHeads, 0, firstHeads, 0, MAX_BAGS);
            System.arraycopy(other.secondLabels, 0, secondLabels, 0, MAX_BAGS);
            System.arraycopy(other.secondHeads, 0, secondHeads, 0, MAX_BAGS);
            System.arraycopy(other.threats, 0, threats, 0, MAX_BAGS);
            System.arraycopy(other.states, 0, states, 0, MAX_BAGS);
            System.arraycopy(other.places, 0, places, 0, MAX_BAGS);
            System.arraycopy(other.deliveryTicks, 0, deliveryTicks, 0, MAX_BAGS);
            System.arraycopy(other.deliveryFlights, 0, deliveryFlights, 0, MAX_BAGS);
        }

        boolean has(int bag) {
            return bag >= 0 && bag < count;
        }

        void describe(int bag, int first, int headsOfFirst, int second, int headsOfSecond, int threat) {
            if (has(bag)) {
                firstLabels[bag] = first;
                firstHeads[bag] = headsOfFirst;
                secondLabels[bag] = second;
                secondHeads[bag] = headsOfSecond;
                threats[bag] = threat;
            }
        }

        void put(int bag, int state, int place) {
            states[bag] = state;
            places[bag] = place;
        }

        boolean isDelivered(int bag) {
            return states[bag] == IN_CHUTE || states[bag] == LOADED;
        }

        boolean isGone(int bag) {
            return states[bag] == ASIDE || states[bag] == SEIZED;
        }
    }

    /**
     * All that ticks and operations change. The belt consists of slots, which carry bags and records
     * along: a slot is at the position of its own number plus what the ring has turned.
     */
    private static final class World {
        Setup setup;
        int now;
        int turned;
        /** The heads that work, as a bit mask. */
        int heads;
        final int[] counts = new int[COUNTS];
        final int[] riders = new int[MAX_POSITIONS];
        final Records belt = new Records(MAX_POSITIONS);
        /** The records of the bags that are off the belt, by bag. */
        final Records held = new Records(MAX_BAGS);
        final Queues queues = new Queues();
        final Bags bags = new Bags();
        final int[] readyTicks = new int[MAX_POSITIONS];
        final int[] workCounters = new int[MAX_POSITIONS];
        final int[] levels = new int[MAX_POSITIONS];

        World(Setup setup) {
            begin(setup);
        }

        void begin(Setup newSetup) {
            setup = newSetup;
            now = 0;
            turned = 0;
            heads = ALL_HEADS;
            bags.count = 0;
            belt.removeAll();
            held.removeAll();
            queues.removeAll();
            Arrays.fill(counts, 0);
            Arrays.fill(riders, NONE);
            Arrays.fill(readyTicks, 0);
            Arrays.fill(workCounters, 0);
            Arrays.fill(levels, 1);
        }

        void copyFrom(World other) {
            setup = other.setup;
            now = other.now;
            turned = other.turned;
            heads = other.heads;
            System.arraycopy(other.counts, 0, counts, 0, COUNTS);
            System.arraycopy(other.riders, 0, riders, 0, MAX_POSITIONS);
            belt.copyFrom(other.belt);
            held.copyFrom(other.held);
            queues.copyFrom(other.queues);
            bags.copyFrom(other.bags);
            System.arraycopy(other.readyTicks, 0, readyTicks, 0, MAX_POSITIONS);
            System.arraycopy(other.workCounters, 0, workCounters, 0, MAX_POSITIONS);
            System.arraycopy(other.levels, 0, levels, 0, MAX_POSITIONS);
        }

        /** Brings a slot or position that is at most one round off back into the ring. */
        int wrapped(int place) {
            if (place < 0) {
                return place + setup.positions;
            }
            return place < setup.positions ? place : place - setup.positions;
        }

        int slotAt(int position) {
            return wrapped(position - turned);
        }

        int positionOf(int slot) {
            return wrapped(slot + turned);
        }

        /** Makes a bag that waits at the inlet at a position; answers NONE if there is no number left for it. */
        int addBag(int position) {
            int bag = bags.count;
            if (bag >= MAX_BAGS || !setup.hasPosition(position)) {
                return NONE;
            }
            bags.count = bag + 1;
            bags.put(bag, WAITING, setup.numbers[position]);
            held.makeAt(bag);
            queues.add(position, bag);
            return bag;
        }

        void setAside(int bag) {
            bags.put(bag, ASIDE, NONE);
            held.removeAt(bag);
            counts[SET_ASIDE]++;
        }

        /** Runs so many ticks; answers how many bags came into chutes. */
        int deliveriesWithin(int ticks) {
            int before = counts[DELIVERIES];
            for (int i = 0; i < ticks; i++) {
                step();
            }
            return counts[DELIVERIES] - before;
        }

        /** Runs until a bag is in a chute, but no longer than the limit; answers the ticks, or NOT_FOUND. */
        int ticksUntilDelivered(int bag, int limit) {
            if (!bags.has(bag)) {
                return NOT_FOUND;
            }
            int ticks = 0;
            while (ticks < limit && !bags.isDelivered(bag) && !bags.isGone(bag)) {
                step();
                ticks++;
            }
            return bags.isDelivered(bag) ? ticks : NOT_FOUND;
        }

        void step() {
            now++;
            turned = wrapped(turned + 1);
            for (int i = 0; i < setup.counts[STATION]; i++) {
                workStation(setup.places[STATION][i]);
            }
            for (int i = 0; i < setup.counts[SCREEN]; i++) {
                workScreen(setup.places[SCREEN][i]);
            }
            for (int i = 0; i < setup.counts[STORE]; i++) {
                workStore(setup.places[STORE][i]);
            }
            for (int i = 0; i < setup.busyLength; i++) {
                int position = setup.busy[i];
                int slot = slotAt(position);
                int sort = setup.sorts[position];
                if (sort == SCANNER) {
                    scan(slot);
                } else if (isOutlet(sort)) {
                    divert(position, slot);
                } else {
                    enter(position, slot);
                }
            }
        }

        private void workStation(int position) {
            int bag = queues.firsts[position];
            if (bag < 0) {
                return;
            }
            workCounters[position]++;
            if (workCounters[position] < setup.times[1][position]) {
                return;
            }
            workCounters[position] = 0;
            queues.takeFirst(position);
            int label = usableLabel(bag);
            if (label == UNREAD) {
                setAside(bag);
                return;
            }
            held.labels[bag] = label;
            held.passes[bag] = 0;
            sendToExit(position, bag);
        }

        private void workScreen(int position) {
            int bag = queues.firsts[position];
            int level = levels[position];
            if (bag < 0 || level < 1 || level > LEVELS) {
                return;
            }
            workCounters[position]++;
            if (workCounters[position] < setup.times[level][position]) {
                return;
            }
            workCounters[position] = 0;
            boolean harmless = bags.threats[bag] < level;
            if (!harmless && level < LEVELS) {
                levels[position] = level + 1;
                return;
            }
            levels[position] = 1;
            queues.takeFirst(position);
            if (harmless) {
                held.cleared[bag] = 1;
                sendToExit(position, bag);
            } else {
                bags.put(bag, SEIZED, NONE);
                held.removeAt(bag);
                counts[SEIZURES]++;
            }
        }

        private void workStore(int position) {
            int best = NONE;
            int beforeBest = NONE;
            int bestClosing = 0;
            int before = NONE;
            int bag = queues.firsts[position];
            for (int i = 0; i < MAX_BAGS && bag >= 0; i++) {
                int flight = setup.flights.ofLabel(held.labels[bag]);
                if (flight != NONE && now >= setup.flights.openings[flight]) {
                    int closing = setup.flights.closings[flight];
                    if (best < 0 || closing < bestClosing) {
                        best = bag;
                        beforeBest = before;
                        bestClosing = closing;
                    }
                }
                before = bag;
                bag = queues.nexts[bag];
            }
            if (best >= 0) {
                queues.takeBehind(position, beforeBest, best);
                sendToExit(position, best);
            }
        }

        private void sendToExit(int position, int bag) {
            int exit = setup.exits[position];
            bags.put(bag, AT_EXIT, exit);
            queues.add(exit, bag);
        }

        /** An inlet or an exit: the record of the bag was made when the bag was checked in. */
        private void enter(int position, int slot) {
            if (riders[slot] >= 0 || belt.has(slot)) {
                return;
            }
            int bag = queues.takeFirst(position);
            if (bag < 0) {
                return;
            }
            belt.moveIn(slot, held, bag);
            riders[slot] = bag;
            bags.put(bag, RIDING, slot);
        }

        private void scan(int slot) {
            boolean hasBag = riders[slot] >= 0;
            boolean hasRecord = belt.has(slot);
            if (hasBag && !hasRecord) {
                findRecordFor(slot);
            }
            if (hasBag) {
                readLabels(slot);
            } else if (hasRecord) {
                findBagFor(slot);
            }
        }

        private void findRecordFor(int slot) {
            int found = loneNear(slot, true);
            if (found < 0) {
                belt.makeAt(slot);
                counts[LOSSES]++;
            } else {
                belt.moveIn(slot, belt, found);
            }
        }

        private void findBagFor(int slot) {
            int found = loneNear(slot, false);
            if (found < 0) {
                belt.removeAt(slot);
                counts[GHOSTS]++;
            } else {
                belt.moveIn(found, belt, slot);
            }
        }

        /** The nearest slot in the tracking window with a lone record, or with a lone bag; NONE if none has one. */
        private int loneNear(int slot, boolean record) {
            for (int distance = 1; distance <= setup.window; distance++) {
                int behind = wrapped(slot - distance);
                if (isLone(behind, record)) {
                    return behind;
                }
                int ahead = wrapped(slot + distance);
                if (isLone(ahead, record)) {
                    return ahead;
                }
            }
            return NONE;
        }

        private boolean isLone(int slot, boolean record) {
            boolean hasBag = riders[slot] >= 0;
            boolean hasRecord = belt.labels[slot] != NO_RECORD;
            return hasRecord == record && hasBag != record;
        }

        private void readLabels(int slot) {
            belt.passes[slot]++;
            int code = codeSeen(riders[slot]);
            int label = belt.labels[slot];
            if (code >= MIN_LABEL) {
                if (label >= MIN_LABEL && label != code) {
                    counts[CONFLICTS]++;
                }
                belt.labels[slot] = code;
            } else if (code == AMBIGUOUS && label == UNREAD) {
                belt.labels[slot] = AMBIGUOUS;
            }
        }

        /** What the heads read of a bag: a label number, AMBIGUOUS, or UNREAD if they see nothing. */
        private int codeSeen(int bag) {
            if (bag < 0) {
                return UNREAD;
            }
            int first = (bags.firstHeads[bag] & heads) != 0 ? bags.firstLabels[bag] : UNREAD;
            int second = (bags.secondHeads[bag] & heads) != 0 ? bags.secondLabels[bag] : UNREAD;
            if (first == UNREAD || first == second) {
                return second;
            }
            if (second == UNREAD) {
                return first;
            }
            boolean firstIsKnown = setup.flights.ofLabel(first) != NONE;
            boolean secondIsKnown = setup.flights.ofLabel(second) != NONE;
            if (firstIsKnown == secondIsKnown) {
                return AMBIGUOUS;
            }
            return firstIsKnown ? first : second;
        }

        private void divert(int position, int slot) {
            if (!belt.has(slot)) {
                return;
            }
            int sort = setup.sorts[position];
            int goal = sort == CHUTE ? FIRST_CHUTE_GOAL + setup.numbers[position] : sort;
            if (goalOf(slot) != goal) {
                return;
            }
            if (queues.sizes[position] >= setup.rooms[position] || now < readyTicks[position]) {
                counts[MISSES]++;
                return;
            }
            readyTicks[position] = now + setup.switchings[position];
            int bag = riders[slot];
            if (bag < 0) {
                belt.removeAt(slot);
                counts[EMPTY_DIVERTINGS]++;
                return;
            }
            riders[slot] = NONE;
            held.moveIn(bag, belt, slot);
            queues.add(position, bag);
            if (sort == CHUTE) {
                deliver(bag, setup.numbers[position]);
            } else {
                bags.put(bag, sort, setup.numbers[position]);
            }
        }

        private void deliver(int bag, int chute) {
            bags.put(bag, IN_CHUTE, chute);
            held.removeAt(bag);
            counts[DELIVERIES]++;
            bags.deliveryTicks[bag] = now;
            int flight = setup.flights.ofLabel(usableLabel(bag));
            boolean isItsChute = flight != NONE && setup.flights.chutes[flight] == chute;
            bags.deliveryFlights[bag] = isItsChute ? flight : NONE;
        }

        /** The destination of the record on a slot, as destination() answers it. */
        int goalOf(int slot) {
            int label = belt.labels[slot];
            int passes = belt.passes[slot];
            if (passes == 0 && label == UNREAD) {
                return NO_GOAL;
            }
            if (passes > setup.passLimit || label == UNREAD || label == AMBIGUOUS) {
                return STATION;
            }
            if (belt.cleared[slot] == 0) {
                return SCREEN;
            }
            int flight = setup.flights.ofLabel(label);
            if (flight == NONE || now >= setup.flights.closings[flight]) {
                return STATION;
            }
            if (now < setup.flights.openings[flight]) {
                return STORE;
            }
            return FIRST_CHUTE_GOAL + setup.flights.chutes[flight];
        }

        /** The proper label of a bag, or UNREAD if it has none. */
        int usableLabel(int bag) {
            int first = bags.firstLabels[bag];
            int flight = setup.flights.ofLabel(first);
            if (flight != NONE && now < setup.flights.closings[flight]) {
                return first;
            }
            int second = bags.secondLabels[bag];
            flight = setup.flights.ofLabel(second);
            if (flight != NONE && now < setup.flights.closings[flight]) {
                return second;
            }
            return UNREAD;
        }

        /** Tells whether neither label of a bag belongs to a flight with this chute. */
        boolean isStray(int bag, int chute) {
            int first = setup.flights.ofLabel(bags.firstLabels[bag]);
            if (first != NONE && setup.flights.chutes[first] == chute) {
                return false;
            }
            int second = setup.flights.ofLabel(bags.secondLabels[bag]);
            return second == NONE || setup.flights.chutes[second] != chute;
        }

        /** How many bags ride with a record, or without one. */
        int ridersWith(boolean record) {
            int found = 0;
            for (int slot = 0; slot < setup.positions; slot++) {
                if (riders[slot] >= 0 && belt.has(slot) == record) {
                    found++;
                }
            }
            return found;
        }

        /** The byte of the map for a slot. */
        int signOf(int slot) {
            boolean hasBag = riders[slot] >= 0;
            if (!belt.has(slot)) {
                return hasBag ? 'x' : '.';
            }
            if (!hasBag) {
                return 'o';
            }
            if (belt.labels[slot] == UNREAD) {
                return 'a';
            }
            if (belt.labels[slot] == AMBIGUOUS) {
                return 'b';
            }
            return belt.cleared[slot] == 0 ? 'c' : 'd';
        }
    }

    /** The worlds before the latest operations, in rows that are used round and round. */
    private static final class History {
        private final World[] saved = new World[UNDO_LIMIT];
        /** The row that the next operation gets. */
        private int next;
        int count;

        History(Setup setup) {
            for (int i = 0; i < UNDO_LIMIT; i++) {
                saved[i] = new World(setup);
            }
        }

        void forget() {
            next = 0;
            count = 0;
        }

        void save(World world) {
            World row = saved[next];
            if (row == null) {
                return;
            }
            row.copyFrom(world);
            next = next + 1 < UNDO_LIMIT ? next + 1 : 0;
            count = Math.min(count + 1, UNDO_LIMIT);
        }

        void restoreInto(World world) {
            int latest = next > 0 ? next - 1 : UNDO_LIMIT - 1;
            World row = saved[latest];
            if (row == null || count == 0) {
                return;
            }
            world.copyFrom(row);
            next = latest;
            count--;
        }
    }
}
