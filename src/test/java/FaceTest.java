import java.io.IOException;
import java.lang.management.ManagementFactory;
import java.lang.reflect.Constructor;
import java.lang.reflect.Field;
import java.lang.reflect.Method;
import java.lang.reflect.Modifier;
import java.nio.file.Files;
import java.nio.file.Path;
import java.util.ArrayList;
import java.util.Collections;
import java.util.List;
import java.util.regex.Pattern;

/** The public face of the class, the rules of the language that can be seen in the source, and the room it takes. */
public final class FaceTest {
    private static final Check CHECK = new Check();
    private static final String FACE = "append(IIIII)I bagAt(I)I bagPlace(I)I bagState(I)I bags()I bestInlet(II)I "
        + "checkIn(IIIIII)I chuteSize(I)I count(I)I delivered(I)I deliveredAt(I)I destination(I)I deviceAt(I)I devices(I)I "
        + "errorPosition()I exitSize(I)I flightNumber(I)I flightState(I)I flights()I forecastDelivered(I)I forecastState(II)I "
        + "isCleared(I)Z latestDelay(II)I load()I loadChute(I)I mapByte(I)I mapLength()I misrouted(I)I onRing()I passes(I)I "
        + "positions()I properLabel(I)I readyAt(I)I recordLabel(I)I run(I)I screenLevel(I)I screenSize(I)I setHead(IZ)Z "
        + "setupByte(I)I setupLength()I slip(I)Z stationSize(I)I storeSize(I)I takeOff(I)I tapeLength()I tick()I "
        + "ticksToChute(II)I truncate(I)I undo()I untracked()I waiting(I)I";

    public static void main(String[] args) throws IOException {
        face();
        source();
        room();
        CHECK.end();
    }

    private static String letter(Class<?> type) {
        return type == int.class ? "I" : type == boolean.class ? "Z" : type.getName();
    }

    private static void face() {
        CHECK.promise(1);
        List<String> found = new ArrayList<>();
        List<String> hidden = new ArrayList<>();
        for (Method m : BaggageHandling.class.getDeclaredMethods()) {
            StringBuilder s = new StringBuilder(m.getName() + "(");
            for (Class<?> type : m.getParameterTypes()) {
                s.append(letter(type));
            }
            s.append(")" + letter(m.getReturnType()));
            if (Modifier.isPublic(m.getModifiers())) {
                found.add(s.toString());
            } else {
                hidden.add(m.getName());
                CHECK.due("private " + m.getName(), Modifier.isPrivate(m.getModifiers()), true);
            }
        }
        Collections.sort(found);
        CHECK.due("the methods", String.join(" ", found), FACE);
        for (String face : found) {
            CHECK.due("a hidden " + face, hidden.contains(face.substring(0, face.indexOf('('))), false);
        }
        for (Field f : BaggageHandling.class.getDeclaredFields()) {
            boolean constant = f.getName().equals("INVALID") || f.getName().equals("NOT_FOUND");
            CHECK.due("public " + f.getName(), Modifier.isPublic(f.getModifiers()), constant);
            CHECK.due("private " + f.getName(), Modifier.isPrivate(f.getModifiers()), !constant);
            CHECK.due("final static " + f.getName(), Modifier.isStatic(f.getModifiers()) && !Modifier.isFinal(f.getModifiers()), false);
        }
        CHECK.due("final class", Modifier.isFinal(BaggageHandling.class.getModifiers()), true);
        Constructor<?>[] made = BaggageHandling.class.getDeclaredConstructors();
        CHECK.due("constructors", made.length, 1);
        CHECK.due("public constructor", Modifier.isPublic(made[0].getModifiers()), true);
        for (Class<?> inside : BaggageHandling.class.getDeclaredClasses()) {
            CHECK.due("static " + inside, Modifier.isStatic(inside.getModifiers()), true);
            CHECK.due("fields of " + inside, inside.getDeclaredFields().length <= 20, true);
        }
        CHECK.due("classes", BaggageHandling.class.getDeclaredClasses().length <= 12, true);
    }

    private static void source() throws IOException {
        String source = Files.readString(Path.of("src/main/java/BaggageHandling.java"))
            .replaceAll("(?s)/\\*.*?\\*/", "").replaceAll("//.*", "").replaceAll("\"[^\"]*\"", "\"\"");
        String[] forbidden = {"\\bthrow\\b", "\\btry\\b", "\\bcatch\\b", "\\bsynchronized\\b", "\\bassert\\b", "->", "::",
            "\\bpackage\\b", "Exact\\b", "\"\\s*\\+", "\\+\\s*\"", "\\bSystem\\.(?!arraycopy)", "\\bhashCode\\b", "\\btoString\\b",
            "\\bimport\\s+(?!java\\.util\\.Arrays;)", "[^\\x0a\\x20-\\x7e]"};
        for (String pattern : forbidden) {
            CHECK.due(pattern + " in the source", Pattern.compile(pattern).matcher(source).find(), false);
        }
    }

    private static long allocated() {
        com.sun.management.ThreadMXBean bean = (com.sun.management.ThreadMXBean) ManagementFactory.getThreadMXBean();
        return bean.getThreadAllocatedBytes(Thread.currentThread().getId());
    }

    /** Calls make no objects at all; a new object and 512 of the dearest calls stay far below the room of a run. */
    private static void room() {
        CHECK.promise(47);
        allocated();
        long before = allocated();
        BaggageHandling x = Check.plantAfter(5);
        long made = allocated() - before;
        CHECK.due("bytes for a new object: " + made, made < 400000, true);
        x.latestDelay(0, 0);
        x.slip(0);
        long start = allocated();
        for (int i = 0; i < 60; i++) {
            x.latestDelay(0, 0);
            x.bestInlet(1, 300);
            x.ticksToChute(0, 300);
            x.forecastState(0, 300);
            x.forecastDelivered(300);
            x.checkIn(0, 7001, 15, 8001, 15, 2);
            x.run(5);
            x.undo();
        }
        long used = allocated() - start;
        CHECK.due("bytes for 480 calls: " + used, used < 20000, true);
    }
}
