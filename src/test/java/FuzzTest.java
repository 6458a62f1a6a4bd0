import java.lang.reflect.Method;
import java.util.ArrayList;
import java.util.Comparator;
import java.util.List;
import java.util.Random;

/** Random runs of calls, with the same seeds each time, answered by BaggageHandling and by Reference. */
public final class FuzzTest {
    private static final int RUNS = Integer.getInteger("runs", 300);
    private static final int FIRST_SEED = Integer.getInteger("seed", 1);
    private static final int CALLS = 420;
    /** Arguments that sums, negations and shifts could bring back into a range. */
    private static final int[] FAR = {Integer.MIN_VALUE, Integer.MIN_VALUE + 1, Integer.MIN_VALUE + 59, -65536, -1000, 1000, 65536,
        Integer.MAX_VALUE - 299, Integer.MAX_VALUE - 1, Integer.MAX_VALUE};
    private static int wrong = 0;

    private final Random random;
    private final BaggageHandling real = new BaggageHandling();
    private final Reference model = new Reference();
    private final List<String> told = new ArrayList<>();
    /** The method of each name, of the class and of the reference. */
    private static final List<Method[]> METHODS = methods();
    private int flights;
    private int[] numbers = {};

    private FuzzTest(long seed) {
        random = new Random(seed);
    }

    public static void main(String[] args) throws Exception {
        int[] answered = new int[12];
        for (int seed = FIRST_SEED; seed < FIRST_SEED + RUNS && wrong == 0; seed++) {
            FuzzTest test = new FuzzTest(seed);
            test.play(seed);
            for (int k = 0; k < 8; k++) {
                answered[k] += test.real.count(k);
            }
        }
        for (int k = 0; k < 8; k++) {
            if (RUNS >= 300 && answered[k] == 0) {
                System.out.println("the runs never reach count " + k);
                wrong++;
            }
        }
        System.exit(wrong == 0 ? 0 : 1);
    }

    private static List<Method[]> methods() {
        List<Method[]> found = new ArrayList<>();
        for (Method m : BaggageHandling.class.getDeclaredMethods()) {
            if (java.lang.reflect.Modifier.isPublic(m.getModifiers())) {
                try {
                    found.add(new Method[] {m, Reference.class.getDeclaredMethod(m.getName(), m.getParameterTypes())});
                } catch (NoSuchMethodException e) {
                    throw new IllegalStateException(e);
                }
            }
        }
        found.sort(Comparator.comparing(pair -> pair[0].getName()));
        return found;
    }

    private void play(int seed) throws Exception {
        setUp();
        for (int i = 0; i < CALLS && wrong == 0; i++) {
            randomCall();
            if (random.nextInt(40) == 0) {
                sweep();
            }
        }
        sweep();
        if (wrong > 0) {
            System.out.println("seed " + seed + ":");
            told.forEach(System.out::println);
        }
    }

    private Object call(String name, Object... args) throws Exception {
        for (Method[] pair : METHODS) {
            if (pair[0].getName().equals(name)) {
                Object got = pair[0].invoke(real, args);
                Object want = pair[1].invoke(model, args);
                told.add(name + java.util.Arrays.toString(args) + " = " + got);
                if (!got.equals(want)) {
                    told.add("  due is " + want);
                    wrong++;
                }
                return got;
            }
        }
        throw new IllegalStateException(name);
    }

    // ---- setups

    private void setUp() throws Exception {
        String text = setupText();
        if (random.nextInt(8) == 0) {
            text = spoil(text);
        }
        if (text.length() > 900) {
            text = text.substring(0, 900);
        }
        int padding = (20 - text.length() % 20) % 20;
        String padded = text + "?".repeat(padding);
        for (int i = 0; i < padded.length(); i += 20) {
            Object[] words = new Object[5];
            for (int k = 0; k < 5; k++) {
                int word = 0;
                for (int b = 0; b < 4; b++) {
                    word = word << 8 | padded.charAt(i + 4 * k + b);
                }
                words[k] = word;
            }
            call("append", words);
        }
        call("truncate", padding);
        told.add("text: " + text);
        call("load");
        call("errorPosition");
        flights = real.flights();
        numbers = new int[flights];
        for (int f = 0; f < flights; f++) {
            numbers[f] = real.flightNumber(f);
        }
    }

    private String spoil(String text) {
        int at = random.nextInt(text.length());
        String junk = new String[] {"x", "9", " ", ";", "\n", "\t", "flight", "0", "\u00e9", "inlet 1;", ""}[random.nextInt(11)];
        return text.substring(0, at) + junk + text.substring(Math.min(text.length(), at + random.nextInt(3)));
    }

    private String gap() {
        return random.nextInt(20) == 0 ? "\n  " : " ";
    }

    /** Half of the setups are lively: they have a device of each sort and flights that are open for long. */
    private String setupText() {
        boolean lively = random.nextBoolean();
        int n = 10 + (random.nextBoolean() ? random.nextInt(15) : random.nextInt(51));
        List<Integer> free = new ArrayList<>();
        for (int p = 0; p < n; p++) {
            free.add(p);
        }
        StringBuilder s = new StringBuilder("ring" + gap() + n + ";");
        int[] most = {0, 3, 3, 6, 2, 2, 2};
        int[] have = new int[7];
        for (int i = 0; i < 22; i++) {
            int sort = lively && i < 6 ? 1 + i : 1 + random.nextInt(6);
            int limit = random.nextInt(200) == 0 ? most[sort] + 1 : most[sort];
            int needed = sort >= 4 ? 2 : 1;
            if (have[sort] < limit && free.size() >= needed + 1) {
                have[sort]++;
                device(s, sort, free);
            }
        }
        flightLines(s, have[3], lively);
        if (random.nextBoolean()) {
            s.append("window " + random.nextInt(4) + ";");
        }
        if (random.nextBoolean()) {
            s.append("passes " + (1 + random.nextInt(lively ? 9 : 4)) + ";");
        }
        return s.toString();
    }

    private void flightLines(StringBuilder s, int chutes, boolean lively) {
        int count = lively ? 3 + random.nextInt(8) : random.nextInt(11);
        int span = lively ? 1200 : 150;
        for (int f = 0; f < count && chutes > 0; f++) {
            int open = random.nextInt(3) == 0 ? 0 : random.nextInt(span);
            int close = open + 1 + random.nextInt(span + 50);
            int number = random.nextInt(30) == 0 ? 1 + random.nextInt(999) : 3 * f + 1 + random.nextInt(3);
            int chute = random.nextInt(100) == 0 ? chutes : random.nextInt(chutes);
            s.append("flight" + gap() + number + gap() + "chute" + gap() + chute
                + gap() + "open" + gap() + open + gap() + "close" + gap() + close + gap() + ";");
        }
    }

    private int draw(List<Integer> free) {
        return random.nextInt(300) == 0 ? 0 : free.remove(random.nextInt(free.size()));
    }

    private void device(StringBuilder s, int sort, List<Integer> free) {
        s.append(Reference.SORTS[sort] + gap() + draw(free));
        if (sort >= 3) {
            s.append(" room " + (1 + random.nextInt(random.nextBoolean() ? 2 : 20)) + " switch" + (1 + random.nextInt(9)));
        }
        if (sort == 4) {
            s.append(" times " + time() + gap() + time() + gap() + time());
        }
        if (sort == 6) {
            s.append(" time " + time());
        }
        if (sort >= 4) {
            s.append(gap() + "exit 0" + draw(free));
        }
        s.append(";");
    }

    private int time() {
        return 1 + random.nextInt(random.nextInt(10) == 0 ? 99 : 5);
    }

    // ---- calls

    /** An index, mostly one below the bound; now and then one beside the range, or far away from it. */
    private int small(int bound) {
        if (random.nextInt(60) == 0) {
            return FAR[random.nextInt(FAR.length)];
        }
        return random.nextInt(12) == 0 ? random.nextInt(4) - 2 + (random.nextBoolean() ? bound : 0) : random.nextInt(Math.max(1, bound));
    }

    private int label() {
        int kind = random.nextInt(12);
        if (random.nextInt(60) == 0) {
            return FAR[random.nextInt(FAR.length)];
        }
        if (kind == 0) {
            return random.nextInt(1000001);
        }
        if (kind == 1) {
            return 0;
        }
        if (kind == 2 || numbers.length == 0) {
            return 1000 * (1 + random.nextInt(40)) + random.nextInt(1000);
        }
        return 1000 * numbers[random.nextInt(numbers.length)] + random.nextInt(3);
    }

    private int mask() {
        return random.nextInt(50) == 0 ? small(18) : random.nextInt(3) == 0 ? random.nextInt(16) : 15;
    }

    private int threat() {
        return random.nextInt(40) == 0 ? small(6) : random.nextInt(4) * random.nextInt(2);
    }

    private int ticks() {
        if (random.nextInt(30) == 0) {
            return random.nextBoolean() ? small(300) : random.nextInt(400) - 40;
        }
        return 1 + random.nextInt(random.nextInt(4) == 0 ? 25 : 4);
    }

    private void randomCall() throws Exception {
        int n = real.positions();
        int dice = random.nextInt(100);
        if (dice < 26) {
            call("checkIn", small(Math.max(1, real.devices(1))), label(), mask(),
                random.nextInt(3) > 0 ? 0 : label(), mask(), threat());
        } else if (dice < 56) {
            call("run", ticks());
        } else if (dice < 63) {
            call("slip", somewhere(n));
        } else if (dice < 65) {
            call("takeOff", somewhere(n));
        } else if (dice < 69) {
            call("setHead", small(4), random.nextBoolean());
        } else if (dice < 73) {
            call("loadChute", small(Math.max(1, real.devices(3))));
        } else if (dice < 79) {
            call("undo");
        } else if (dice < 81) {
            call("ticksToChute", small(real.bags()), small(300));
        } else if (dice < 83) {
            call("forecastState", small(real.bags()), small(300));
        } else if (dice < 84) {
            call("forecastDelivered", small(300));
        } else if (dice < 86) {
            call("bestInlet", small(flights), small(300));
        } else if (dice < 87) {
            call("latestDelay", small(flights), small(real.devices(1)));
        } else if (dice < 88 && random.nextInt(6) == 0) {
            setUp();
        } else {
            query(n);
        }
    }

    /** A position, mostly one with a bag. */
    private int somewhere(int n) {
        int start = small(n);
        for (int k = 0; k < n && random.nextInt(8) > 0; k++) {
            int p = Math.floorMod(start + k, n);
            if (real.bagAt(p) >= 0) {
                return p;
            }
        }
        return start;
    }

    private void query(int n) throws Exception {
        Method m = METHODS.get(random.nextInt(METHODS.size()))[0];
        if (m.getParameterCount() == 1 && m.getParameterTypes()[0] == int.class && !isOperation(m.getName())) {
            call(m.getName(), small(n + 2));
        }
    }

    private static boolean isOperation(String name) {
        return List.of("run", "slip", "takeOff", "loadChute", "truncate").contains(name);
    }

    /** Every question about the state, with every argument that has a meaning and some that have none. */
    private void sweep() throws Exception {
        for (Method[] pair : METHODS) {
            Method m = pair[0];
            if (m.getParameterCount() == 0 && !List.of("undo", "load").contains(m.getName())) {
                call(m.getName());
            }
            if (m.getParameterCount() == 1 && !isOperation(m.getName()) && !m.getName().startsWith("forecast")) {
                int top = m.getName().startsWith("setup") ? real.setupLength() + 1 : 102;
                for (int i = -1; i <= top; i++) {
                    quietCall(pair, i);
                }
            }
        }
    }

    private void quietCall(Method[] pair, int i) throws Exception {
        Object got = pair[0].invoke(real, i);
        Object want = pair[1].invoke(model, i);
        if (!got.equals(want)) {
            told.add(pair[0].getName() + "(" + i + ") = " + got + ", due is " + want);
            wrong++;
        }
    }
}
