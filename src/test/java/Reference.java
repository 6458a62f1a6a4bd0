import java.util.ArrayList;
import java.util.Arrays;
import java.util.HashMap;
import java.util.HashSet;
import java.util.List;
import java.util.Map;
import java.util.Set;
import java.util.regex.Matcher;
import java.util.regex.Pattern;

/**
 * The document once more, written in another way: the ring really moves, undo() makes everything anew
 * from the first operation on, and the setup text is cut into tokens before it is read. FuzzTest
 * compares BaggageHandling with it.
 */
final class Reference {
    static final class Rec {
        int label;
        int passes;
        boolean cleared;

        Rec copy() {
            Rec r = new Rec();
            r.label = label;
            r.passes = passes;
            r.cleared = cleared;
            return r;
        }
    }

    static final class Bag {
        int no;
        int first;
        int firstHeads;
        int second;
        int secondHeads;
        int threat;
        int state;
        int place;
        int deliveredAt = -2;
        int flight = -1;
        Rec rec;
    }

    static final class Device {
        String word;
        int sort;
        int number;
        int pos;
        int room;
        int switching;
        int[] times = {};
        int exit = -1;
        List<Integer> inside = new ArrayList<>();
        List<Integer> leaving = new ArrayList<>();
        int ready;
        int worked;
        int level = 1;
    }

    static final class Flight {
        int number;
        int chute;
        int open;
        int close;
    }

    static final String[] SORTS = {"none", "inlet", "scanner", "chute", "screen", "store", "station"};
    static final int[] LIMITS = {0, 3, 3, 6, 2, 2, 2};

    // the setup
    int n = 10;
    int window = 1;
    int passLimit = 3;
    List<Device> devices = new ArrayList<>();
    List<Flight> flights = new ArrayList<>();
    // the state
    int now;
    boolean[] heads = {true, true, true, true};
    Bag[] ringBags = new Bag[10];
    Rec[] ringRecs = new Rec[10];
    List<Bag> bags = new ArrayList<>();
    int[] counts = new int[8];
    // beside the state
    StringBuilder tape = new StringBuilder();
    int errorAt = -2;
    List<int[]> log = new ArrayList<>();
    int undoable;
    String loadedText = "ring 10;";

    Reference copy() {
        Reference r = new Reference();
        r.n = n;
        r.window = window;
        r.passLimit = passLimit;
        r.flights = flights;
        r.now = now;
        r.heads = heads.clone();
        r.counts = counts.clone();
        Map<Bag, Bag> twin = new HashMap<>();
        for (Bag b : bags) {
            Bag c = new Bag();
            c.no = b.no;
            c.first = b.first;
            c.firstHeads = b.firstHeads;
            c.second = b.second;
            c.secondHeads = b.secondHeads;
            c.threat = b.threat;
            c.state = b.state;
            c.place = b.place;
            c.deliveredAt = b.deliveredAt;
            c.flight = b.flight;
            c.rec = b.rec == null ? null : b.rec.copy();
            twin.put(b, c);
            r.bags.add(c);
        }
        r.ringBags = new Bag[n];
        r.ringRecs = new Rec[n];
        for (int i = 0; i < n; i++) {
            r.ringBags[i] = ringBags[i] == null ? null : twin.get(ringBags[i]);
            r.ringRecs[i] = ringRecs[i] == null ? null : ringRecs[i].copy();
        }
        for (Device d : devices) {
            Device c = new Device();
            c.word = d.word;
            c.sort = d.sort;
            c.number = d.number;
            c.pos = d.pos;
            c.room = d.room;
            c.switching = d.switching;
            c.times = d.times;
            c.exit = d.exit;
            c.inside = new ArrayList<>(d.inside);
            c.leaving = new ArrayList<>(d.leaving);
            c.ready = d.ready;
            c.worked = d.worked;
            c.level = d.level;
            r.devices.add(c);
        }
        return r;
    }

    // ---- setup

    int append(int a, int b, int c, int d, int e) {
        if (tape.length() + 20 > 900) {
            return -1;
        }
        for (int word : new int[] {a, b, c, d, e}) {
            for (int k = 3; k >= 0; k--) {
                tape.append((char) (word >> 8 * k & 255));
            }
        }
        return tape.length();
    }

    int truncate(int count) {
        if (count < 0 || count > tape.length()) {
            return -1;
        }
        tape.setLength(tape.length() - count);
        return tape.length();
    }

    int load() {
        String text = tape.toString();
        tape.setLength(0);
        Reference fresh = new Reference();
        errorAt = fresh.parse(text);
        if (errorAt >= 0) {
            return -1;
        }
        errorAt = -2;
        log.clear();
        undoable = 0;
        loadedText = text;
        takeStateFrom(fresh);
        return n;
    }

    private void takeStateFrom(Reference r) {
        n = r.n;
        window = r.window;
        passLimit = r.passLimit;
        devices = r.devices;
        flights = r.flights;
        now = r.now;
        heads = r.heads;
        ringBags = r.ringBags;
        ringRecs = r.ringRecs;
        bags = r.bags;
        counts = r.counts;
    }

    private List<String> tokens;
    private List<Integer> starts;
    private int at;
    private Set<Integer> used;

    /** Thrown at the token that cannot stand. */
    private static final class Bad extends RuntimeException {
        private static final long serialVersionUID = 1L;
    }

    /** Answers the error position, or -2 if there is no error. */
    private int parse(String text) {
        tokens = new ArrayList<>();
        starts = new ArrayList<>();
        used = new HashSet<>();
        at = 0;
        Matcher m = Pattern.compile("[ \\n]+|[a-z]+|[0-9]+|(?s:.)").matcher(text);
        while (m.find()) {
            if (!m.group().isBlank() || m.group().charAt(0) != ' ' && m.group().charAt(0) != '\n') {
                tokens.add(m.group());
                starts.add(m.start());
            }
        }
        tokens.add("");
        starts.add(text.length());
        try {
            grammar();
        } catch (Bad bad) {
            return starts.get(at);
        }
        ringBags = new Bag[n];
        ringRecs = new Rec[n];
        return -2;
    }

    private void grammar() {
        word("ring");
        n = number(10, 60);
        word(";");
        while (Arrays.asList(SORTS).indexOf(tokens.get(at)) > 0) {
            device();
        }
        while (tokens.get(at).equals("flight")) {
            flight();
        }
        if (tokens.get(at).equals("window")) {
            word("window");
            window = number(0, 3);
            word(";");
        }
        if (tokens.get(at).equals("passes")) {
            word("passes");
            passLimit = number(1, 9);
            word(";");
        }
        if (!tokens.get(at).isEmpty()) {
            throw new Bad();
        }
    }

    private void device() {
        Device d = new Device();
        d.word = tokens.get(at);
        d.sort = Arrays.asList(SORTS).indexOf(d.word);
        d.number = ofSort(d.sort).size();
        if (d.number == LIMITS[d.sort]) {
            throw new Bad();
        }
        at++;
        d.pos = freePosition();
        if (d.sort >= 3) {
            word("room");
            d.room = number(1, 20);
            word("switch");
            d.switching = number(1, 9);
        }
        if (d.sort == 4) {
            word("times");
            d.times = new int[] {number(1, 99), number(1, 99), number(1, 99)};
        }
        if (d.sort == 6) {
            word("time");
            d.times = new int[] {number(1, 99)};
        }
        if (d.sort >= 4) {
            word("exit");
            d.exit = freePosition();
        }
        word(";");
        devices.add(d);
    }

    private void flight() {
        if (flights.size() == 10) {
            throw new Bad();
        }
        at++;
        Flight f = new Flight();
        f.number = number(1, 999);
        for (Flight g : flights) {
            if (g.number == f.number) {
                at--;
                throw new Bad();
            }
        }
        word("chute");
        f.chute = number(0, ofSort(3).size() - 1);
        word("open");
        f.open = number(0, 99998);
        word("close");
        f.close = number(f.open + 1, 99999);
        word(";");
        flights.add(f);
    }

    private void word(String w) {
        if (!tokens.get(at).equals(w)) {
            throw new Bad();
        }
        at++;
    }

    private int number(int low, int high) {
        String t = tokens.get(at);
        if (!t.matches("[0-9]{1,5}") || Integer.parseInt(t) < low || Integer.parseInt(t) > high) {
            throw new Bad();
        }
        at++;
        return Integer.parseInt(t);
    }

    private int freePosition() {
        int p = number(0, n - 1);
        if (!used.add(p)) {
            at--;
            throw new Bad();
        }
        return p;
    }

    private List<Device> ofSort(int sort) {
        List<Device> found = new ArrayList<>();
        for (Device d : devices) {
            if (d.sort == sort) {
                found.add(d);
            }
        }
        return found;
    }

    private Device device(int sort, int number) {
        for (Device d : devices) {
            if (d.sort == sort && d.number == number) {
                return d;
            }
        }
        return null;
    }

    int errorPosition() {
        return errorAt;
    }

    int positions() {
        return n;
    }

    private boolean onRing(int p) {
        return p >= 0 && p < n;
    }

    int deviceAt(int p) {
        if (!onRing(p)) {
            return -1;
        }
        for (Device d : devices) {
            if (d.pos == p) {
                return d.sort;
            }
            if (d.exit == p) {
                return 7;
            }
        }
        return 0;
    }

    int devices(int sort) {
        return sort < 1 || sort > 6 ? -1 : ofSort(sort).size();
    }

    int flights() {
        return flights.size();
    }

    private boolean noFlight(int f) {
        return f < 0 || f >= flights.size();
    }

    int flightNumber(int f) {
        return noFlight(f) ? -1 : flights.get(f).number;
    }

    int flightState(int f) {
        return noFlight(f) ? -1 : stateOf(flights.get(f));
    }

    private int stateOf(Flight f) {
        return now >= f.close ? 2 : now >= f.open ? 1 : 0;
    }

    private Flight flightOf(int label) {
        for (Flight f : flights) {
            if (label > 0 && f.number == label / 1000) {
                return f;
            }
        }
        return null;
    }

    // ---- operations

    private void note(int... operation) {
        log.add(operation);
        undoable = Math.min(10, undoable + 1);
    }

    int checkIn(int inlet, int first, int firstHeads, int second, int secondHeads, int threat) {
        boolean labels = (first == 0 || first >= 1000 && first <= 999999)
            && (second == 0 || second >= 1000 && second <= 999999);
        boolean masks = (firstHeads & ~15) == 0 && (secondHeads & ~15) == 0 && (threat & ~3) == 0;
        Device d = device(1, inlet);
        if (d == null || !labels || !masks) {
            return -1;
        }
        if (bags.size() == 100) {
            return -2;
        }
        Bag b = new Bag();
        b.no = bags.size();
        b.first = first;
        b.firstHeads = firstHeads;
        b.second = second;
        b.secondHeads = secondHeads;
        b.threat = threat;
        b.state = 0;
        b.place = inlet;
        bags.add(b);
        d.leaving.add(b.no);
        note(0, inlet, first, firstHeads, second, secondHeads, threat);
        return b.no;
    }

    int run(int ticks) {
        if (ticks < 1 || ticks > 300 || now + ticks > 100000) {
            return -1;
        }
        int before = counts[7];
        ticks(ticks);
        note(1, ticks);
        return counts[7] - before;
    }

    boolean slip(int p) {
        if (!onRing(p) || ringBags[p] == null || ringBags[Math.floorMod(p - 1, n)] != null) {
            return false;
        }
        ringBags[Math.floorMod(p - 1, n)] = ringBags[p];
        ringBags[p] = null;
        note(2, p);
        return true;
    }

    int takeOff(int p) {
        if (!onRing(p)) {
            return -1;
        }
        if (ringBags[p] == null) {
            return -2;
        }
        Bag b = ringBags[p];
        ringBags[p] = null;
        b.state = 8;
        counts[5]++;
        note(3, p);
        return b.no;
    }

    boolean setHead(int head, boolean works) {
        if (head < 0 || head > 3 || heads[head] == works) {
            return false;
        }
        heads[head] = works;
        note(4, head, works ? 1 : 0);
        return true;
    }

    int loadChute(int chute) {
        Device d = device(3, chute);
        if (d == null) {
            return -1;
        }
        if (d.inside.isEmpty()) {
            return -2;
        }
        int size = d.inside.size();
        for (int b : d.inside) {
            bags.get(b).state = 3;
        }
        d.inside.clear();
        note(5, chute);
        return size;
    }

    int undo() {
        if (undoable == 0) {
            return -1;
        }
        int left = undoable - 1;
        List<int[]> again = new ArrayList<>(log.subList(0, log.size() - 1));
        Reference fresh = new Reference();
        fresh.parse(loadedText);
        for (int[] o : again) {
            fresh.redo(o);
        }
        takeStateFrom(fresh);
        log = again;
        undoable = left;
        return left;
    }

    private void redo(int[] o) {
        switch (o[0]) {
            case 0 -> checkIn(o[1], o[2], o[3], o[4], o[5], o[6]);
            case 1 -> run(o[1]);
            case 2 -> slip(o[1]);
            case 3 -> takeOff(o[1]);
            case 4 -> setHead(o[1], o[2] == 1);
            default -> loadChute(o[1]);
        }
    }

    // ---- a tick

    private void ticks(int count) {
        for (int i = 0; i < count; i++) {
            oneTick();
        }
    }

    private void oneTick() {
        now++;
        Bag[] movedBags = new Bag[n];
        Rec[] movedRecs = new Rec[n];
        for (int p = 0; p < n; p++) {
            movedBags[(p + 1) % n] = ringBags[p];
            movedRecs[(p + 1) % n] = ringRecs[p];
        }
        ringBags = movedBags;
        ringRecs = movedRecs;
        ofSort(6).forEach(this::work);
        ofSort(4).forEach(this::screen);
        ofSort(5).forEach(this::release);
        for (int p = 0; p < n; p++) {
            for (Device d : devices) {
                if (d.pos == p && d.sort == 1 || d.exit == p) {
                    enter(d, p);
                } else if (d.pos == p && d.sort == 2) {
                    scan(p);
                } else if (d.pos == p) {
                    take(d);
                }
            }
        }
    }

    private void exit(Device d, Bag b) {
        d.leaving.add(b.no);
        b.state = 7;
        b.place = d.exit;
    }

    private void work(Device d) {
        if (d.inside.isEmpty() || ++d.worked < d.times[0]) {
            return;
        }
        d.worked = 0;
        Bag b = bags.get(d.inside.remove(0));
        int label = proper(b);
        if (label == 0) {
            b.state = 8;
            b.rec = null;
            counts[5]++;
        } else {
            b.rec.label = label;
            b.rec.passes = 0;
            exit(d, b);
        }
    }

    private void screen(Device d) {
        if (d.inside.isEmpty() || ++d.worked < d.times[d.level - 1]) {
            return;
        }
        d.worked = 0;
        Bag b = bags.get(d.inside.get(0));
        if (b.threat < d.level) {
            b.rec.cleared = true;
            exit(d, b);
        } else if (d.level < 3) {
            d.level++;
            return;
        } else {
            b.state = 9;
            b.rec = null;
            counts[6]++;
        }
        d.inside.remove(0);
        d.level = 1;
    }

    private void release(Device d) {
        Integer best = null;
        for (Integer no : d.inside) {
            Flight f = flightOf(bags.get(no).rec.label);
            if (f != null && stateOf(f) > 0
                    && (best == null || f.close < flightOf(bags.get(best).rec.label).close)) {
                best = no;
            }
        }
        if (best != null) {
            d.inside.remove(best);
            exit(d, bags.get(best));
        }
    }

    private void enter(Device d, int p) {
        if (ringBags[p] == null && ringRecs[p] == null && !d.leaving.isEmpty()) {
            Bag b = bags.get(d.leaving.remove(0));
            b.state = 1;
            ringBags[p] = b;
            ringRecs[p] = d.sort == 1 ? new Rec() : b.rec;
            b.rec = null;
        }
    }

    private void scan(int p) {
        if (ringBags[p] == null && ringRecs[p] == null) {
            return;
        }
        List<Integer> near = new ArrayList<>();
        for (int d = 1; d <= window; d++) {
            near.add(Math.floorMod(p - d, n));
            near.add(Math.floorMod(p + d, n));
        }
        if (ringBags[p] == null) {
            Rec r = ringRecs[p];
            ringRecs[p] = null;
            for (int q : near) {
                if (ringBags[q] != null && ringRecs[q] == null) {
                    ringRecs[q] = r;
                    return;
                }
            }
            counts[1]++;
            return;
        }
        for (int q : near) {
            if (ringRecs[p] == null && ringBags[q] == null && ringRecs[q] != null) {
                ringRecs[p] = ringRecs[q];
                ringRecs[q] = null;
            }
        }
        if (ringRecs[p] == null) {
            ringRecs[p] = new Rec();
            counts[0]++;
        }
        read(ringBags[p], ringRecs[p]);
    }

    private void read(Bag b, Rec r) {
        r.passes++;
        Set<Integer> codes = new HashSet<>();
        for (int h = 0; h < 4; h++) {
            if (heads[h] && (b.firstHeads >> h & 1) == 1) {
                codes.add(b.first);
            }
            if (heads[h] && (b.secondHeads >> h & 1) == 1) {
                codes.add(b.second);
            }
        }
        codes.remove(0);
        if (codes.isEmpty()) {
            return;
        }
        if (codes.size() == 2) {
            Set<Integer> known = new HashSet<>(codes);
            known.removeIf(c -> flightOf(c) == null);
            if (known.size() != 1) {
                r.label = r.label == 0 ? -1 : r.label;
                return;
            }
            codes = known;
        }
        int code = codes.iterator().next();
        counts[2] += r.label > 0 && r.label != code ? 1 : 0;
        r.label = code;
    }

    private int goal(Rec r) {
        if (r.passes == 0 && r.label == 0) {
            return 0;
        }
        if (r.passes > passLimit || r.label <= 0) {
            return 6;
        }
        if (!r.cleared) {
            return 4;
        }
        Flight f = flightOf(r.label);
        if (f == null || stateOf(f) == 2) {
            return 6;
        }
        return stateOf(f) == 0 ? 5 : 10 + f.chute;
    }

    private void take(Device d) {
        Rec r = ringRecs[d.pos];
        if (r == null || goal(r) != (d.sort == 3 ? 10 + d.number : d.sort)) {
            return;
        }
        if (d.inside.size() >= d.room || d.ready > now) {
            counts[3]++;
            return;
        }
        d.ready = now + d.switching;
        ringRecs[d.pos] = null;
        Bag b = ringBags[d.pos];
        ringBags[d.pos] = null;
        if (b == null) {
            counts[4]++;
            return;
        }
        d.inside.add(b.no);
        b.place = d.number;
        b.rec = r;
        b.state = d.sort;
        if (d.sort == 3) {
            b.state = 2;
            b.rec = null;
            b.deliveredAt = now;
            counts[7]++;
            Flight f = flightOf(proper(b));
            b.flight = f != null && f.chute == d.number ? flights.indexOf(f) : -1;
        }
    }

    private int proper(Bag b) {
        for (int label : new int[] {b.first, b.second}) {
            Flight f = flightOf(label);
            if (f != null && stateOf(f) < 2) {
                return label;
            }
        }
        return 0;
    }

    // ---- state

    int tick() {
        return now;
    }

    int bagAt(int p) {
        return !onRing(p) ? -1 : ringBags[p] == null ? -2 : ringBags[p].no;
    }

    int recordLabel(int p) {
        return !onRing(p) ? -1 : ringRecs[p] == null ? -2 : Math.abs(ringRecs[p].label);
    }

    boolean isCleared(int p) {
        return onRing(p) && ringRecs[p] != null && ringRecs[p].cleared;
    }

    int passes(int p) {
        return !onRing(p) ? -1 : ringRecs[p] == null ? -2 : ringRecs[p].passes;
    }

    int destination(int p) {
        return !onRing(p) ? -1 : ringRecs[p] == null ? -2 : goal(ringRecs[p]);
    }

    int bags() {
        return bags.size();
    }

    private boolean noBag(int b) {
        return b < 0 || b >= bags.size();
    }

    int bagState(int b) {
        return noBag(b) ? -1 : bags.get(b).state;
    }

    int bagPlace(int b) {
        if (noBag(b)) {
            return -1;
        }
        if (bags.get(b).state > 7) {
            return -2;
        }
        return bags.get(b).state == 1 ? Arrays.asList(ringBags).indexOf(bags.get(b)) : bags.get(b).place;
    }

    int deliveredAt(int b) {
        return noBag(b) ? -1 : bags.get(b).deliveredAt;
    }

    int properLabel(int b) {
        return noBag(b) ? -1 : proper(bags.get(b)) == 0 ? -2 : proper(bags.get(b));
    }

    int waiting(int inlet) {
        return device(1, inlet) == null ? -1 : device(1, inlet).leaving.size();
    }

    int chuteSize(int d) {
        return device(3, d) == null ? -1 : device(3, d).inside.size();
    }

    int screenSize(int d) {
        return device(4, d) == null ? -1 : device(4, d).inside.size();
    }

    int screenLevel(int d) {
        return device(4, d) == null ? -1 : device(4, d).inside.isEmpty() ? 0 : device(4, d).level;
    }

    int storeSize(int d) {
        return device(5, d) == null ? -1 : device(5, d).inside.size();
    }

    int stationSize(int d) {
        return device(6, d) == null ? -1 : device(6, d).inside.size();
    }

    int exitSize(int p) {
        for (Device d : devices) {
            if (p >= 0 && d.exit == p) {
                return d.leaving.size();
            }
        }
        return -1;
    }

    int readyAt(int p) {
        for (Device d : devices) {
            if (d.sort >= 3 && d.pos == p) {
                return d.ready;
            }
        }
        return -1;
    }

    int onRing() {
        return (int) bags.stream().filter(b -> b.state == 1).count();
    }

    int untracked() {
        return (int) bags.stream().filter(b -> b.state == 1)
            .filter(b -> ringRecs[Arrays.asList(ringBags).indexOf(b)] == null).count();
    }

    int count(int what) {
        return what < 0 || what > 7 ? -1 : counts[what];
    }

    int misrouted(int chute) {
        if (device(3, chute) == null) {
            return -1;
        }
        return (int) bags.stream().filter(b -> (b.state == 2 || b.state == 3) && b.place == chute)
            .filter(b -> !leadsTo(b.first, chute) && !leadsTo(b.second, chute)).count();
    }

    private boolean leadsTo(int label, int chute) {
        return flightOf(label) != null && flightOf(label).chute == chute;
    }

    int delivered(int f) {
        return noFlight(f) ? -1 : (int) bags.stream().filter(b -> b.flight == f).count();
    }

    // ---- forecasts

    private static boolean badLimit(int ticks) {
        return ticks < 1 || ticks > 300;
    }

    private int ticksTo(int b, int limit) {
        for (int t = 0; t <= limit; t++) {
            if (bags.get(b).state == 2 || bags.get(b).state == 3) {
                return t;
            }
            oneTick();
        }
        return -2;
    }

    int ticksToChute(int b, int limit) {
        return noBag(b) || badLimit(limit) ? -1 : copy().ticksTo(b, limit);
    }

    int forecastState(int b, int ticks) {
        if (noBag(b) || badLimit(ticks)) {
            return -1;
        }
        Reference r = copy();
        r.ticks(ticks);
        return r.bags.get(b).state;
    }

    int forecastDelivered(int ticks) {
        if (badLimit(ticks)) {
            return -1;
        }
        Reference r = copy();
        r.ticks(ticks);
        return r.counts[7] - counts[7];
    }

    int bestInlet(int f, int limit) {
        if (noFlight(f) || badLimit(limit)) {
            return -1;
        }
        int best = -2;
        int bestTicks = 301;
        for (int inlet = 0; inlet < devices(1) && bags.size() < 100; inlet++) {
            Reference r = copy();
            int b = r.checkIn(inlet, flights.get(f).number * 1000, 15, 0, 0, 0);
            int t = r.ticksTo(b, limit);
            if (t >= 0 && t < bestTicks) {
                best = inlet;
                bestTicks = t;
            }
        }
        return best;
    }

    int latestDelay(int f, int inlet) {
        if (noFlight(f) || device(1, inlet) == null) {
            return -1;
        }
        int latest = -2;
        for (int delay = 0; delay <= 30 && bags.size() < 100; delay++) {
            Reference r = copy();
            r.ticks(delay);
            int b = r.checkIn(inlet, flights.get(f).number * 1000, 15, 0, 0, 0);
            boolean comes = r.ticksTo(b, 300) >= 0;
            if (comes && r.bags.get(b).place == flights.get(f).chute
                    && r.bags.get(b).deliveredAt < flights.get(f).close) {
                latest = delay;
            }
        }
        return latest;
    }

    // ---- texts

    private String map() {
        StringBuilder s = new StringBuilder();
        for (int p = 0; p < n; p++) {
            Rec r = ringRecs[p];
            if (ringBags[p] == null) {
                s.append(r == null ? '.' : 'o');
            } else if (r == null) {
                s.append('x');
            } else {
                s.append(r.label == 0 ? 'a' : r.label == -1 ? 'b' : r.cleared ? 'd' : 'c');
            }
        }
        return s.append('\n').toString();
    }

    private String setup() {
        StringBuilder s = new StringBuilder("ring " + n + ";");
        for (Device d : devices) {
            s.append(d.word + " " + d.pos);
            s.append(d.sort >= 3 ? " room " + d.room + " switch " + d.switching : "");
            s.append(d.sort == 4 ? " times " + d.times[0] + " " + d.times[1] + " " + d.times[2] : "");
            s.append(d.sort == 6 ? " time " + d.times[0] : "");
            s.append(d.sort >= 4 ? " exit " + d.exit + ";" : ";");
        }
        for (Flight f : flights) {
            s.append("flight " + f.number + " chute " + f.chute + " open " + f.open + " close " + f.close + ";");
        }
        return s.append("window " + window + ";passes " + passLimit + ";").toString();
    }

    private static int byteOf(String s, int i) {
        return i < 0 ? -1 : i >= s.length() ? -2 : s.charAt(i);
    }

    int mapLength() {
        return map().length();
    }

    int mapByte(int i) {
        return byteOf(map(), i);
    }

    int setupLength() {
        return setup().length();
    }

    int setupByte(int i) {
        return byteOf(setup(), i);
    }

    int tapeLength() {
        return tape.length();
    }
}
