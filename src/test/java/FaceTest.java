import java.io.IOException;
import java.lang.management.ManagementFactory;
import java.lang.reflect.Constructor;
import java.lang.reflect.Field;
import java.lang.reflect.Method;
import java.lang.reflect.Modifier;
import java.nio.file.Files;
import java.nio.file.Path;
import java.util.ArrayList;
import java.util.Collections;
import java.util.List;
import java.util.regex.Pattern;

/** The public face of the class, the rules of the language that can be seen in the source, and the room it takes. */
public final class FaceTest {
    private static final Check CHECK = new Check();
    private static final Path DOCUMENT = Path.of("../shared/DOC.md");
    private static final Path SOURCE = Path.of("src/main/java/BaggageHandling.java");

    public static void main(String[] args) throws IOException {
        CHECK.promise(1);
        List<String> due = faceOfDocument();
        CHECK.due("the face that the document shows", due.size() > 50, true);
        CHECK.due("the face", String.join("\n", face()), String.join("\n", due));
        names(due);
        promises(due);
        constants();
        members();
        source();
        room();
        CHECK.end();
    }

    /** The lines of the document's face, as "int append(int, int, int, int, int)", sorted. */
    private static List<String> faceOfDocument() throws IOException {
        List<String> found = new ArrayList<>();
        for (String line : Files.readAllLines(DOCUMENT)) {
            if (line.matches("    public (int|boolean) \\w+\\(.*\\);")) {
                found.add(line.trim().replaceAll("public |;", "").replaceAll("(int|boolean) \\w+([,)])", "$1$2"));
            }
        }
        Collections.sort(found);
        return found;
    }

    /** The public methods of the class, in the same form. */
    private static List<String> face() {
        List<String> found = new ArrayList<>();
        for (Method m : BaggageHandling.class.getDeclaredMethods()) {
            if (Modifier.isPublic(m.getModifiers())) {
                List<String> types = new ArrayList<>();
                for (Class<?> type : m.getParameterTypes()) {
                    types.add(type.getName());
                }
                found.add(m.getReturnType().getName() + " " + m.getName() + "(" + String.join(", ", types) + ")");
            }
        }
        Collections.sort(found);
        return found;
    }

    /** Rule 1: no hidden method bears the name of a public one. */
    private static void names(List<String> due) {
        for (Method m : BaggageHandling.class.getDeclaredMethods()) {
            if (!Modifier.isPublic(m.getModifiers())) {
                CHECK.due("private " + m.getName(), Modifier.isPrivate(m.getModifiers()), true);
                for (String line : due) {
                    CHECK.due("a hidden " + line, line.contains(" " + m.getName() + "("), false);
                }
            }
        }
    }

    /** The source has the parameters of the document, by their names, in the face and in the promises. */
    private static void promises(List<String> due) throws IOException {
        String source = Files.readString(SOURCE);
        int found = 0;
        for (String line : Files.readAllLines(DOCUMENT)) {
            if (line.matches("`(int|boolean) \\w+\\(.*\\)`")) {
                found++;
                CHECK.due("the source has " + line, source.contains("    public " + line.replace("`", "") + " {\n"), true);
            } else if (line.matches("    public .*\\);")) {
                CHECK.due("the source has " + line, source.contains(line.replace(";", " {\n")), true);
            } else if (line.matches("    public .* = .*;")) {
                CHECK.due("the source has " + line, source.contains(line + "\n"), true);
            }
        }
        CHECK.due("promises with a signature", found, due.size());
    }

    private static void constants() {
        CHECK.due("INVALID", BaggageHandling.INVALID, -1);
        CHECK.due("NOT_FOUND", BaggageHandling.NOT_FOUND, -2);
        for (Field f : BaggageHandling.class.getDeclaredFields()) {
            boolean constant = f.getName().equals("INVALID") || f.getName().equals("NOT_FOUND");
            CHECK.due("public " + f.getName(), Modifier.isPublic(f.getModifiers()), constant);
            CHECK.due("private " + f.getName(), Modifier.isPrivate(f.getModifiers()), !constant);
            CHECK.due("final static " + f.getName(), Modifier.isStatic(f.getModifiers()) && !Modifier.isFinal(f.getModifiers()), false);
        }
    }

    private static void members() {
        CHECK.due("final class", Modifier.isFinal(BaggageHandling.class.getModifiers()), true);
        Constructor<?>[] made = BaggageHandling.class.getDeclaredConstructors();
        CHECK.due("constructors", made.length, 1);
        CHECK.due("public constructor", Modifier.isPublic(made[0].getModifiers()), true);
        CHECK.due("parameters of the constructor", made[0].getParameterCount(), 0);
        for (Class<?> inside : BaggageHandling.class.getDeclaredClasses()) {
            CHECK.due("static " + inside, Modifier.isStatic(inside.getModifiers()), true);
            CHECK.due("fields of " + inside, inside.getDeclaredFields().length <= 20, true);
        }
        CHECK.due("classes", BaggageHandling.class.getDeclaredClasses().length <= 12, true);
    }

    private static void source() throws IOException {
        String source = Files.readString(SOURCE)
            .replaceAll("(?s)/\\*.*?\\*/", "").replaceAll("//.*", "").replaceAll("\"[^\"]*\"", "\"\"");
        String[] forbidden = {"\\bthrow\\b", "\\btry\\b", "\\bcatch\\b", "\\bsynchronized\\b", "\\bassert\\b", "->", "::",
            "\\bpackage\\b", "Exact\\b", "\"\\s*\\+", "\\+\\s*\"", "\\bSystem\\.(?!arraycopy)", "\\bhashCode\\b", "\\btoString\\b",
            "\\bimport\\s+(?!java\\.util\\.Arrays;)", "[^\\x0a\\x20-\\x7e]"};
        for (String pattern : forbidden) {
            CHECK.due(pattern + " in the source", Pattern.compile(pattern).matcher(source).find(), false);
        }
    }

    private static long allocated() {
        com.sun.management.ThreadMXBean bean = (com.sun.management.ThreadMXBean) ManagementFactory.getThreadMXBean();
        return bean.getThreadAllocatedBytes(Thread.currentThread().getId());
    }

    /** Calls make no objects at all; a new object and 512 of the dearest calls stay far below the room of a run. */
    private static void room() {
        CHECK.promise(47);
        allocated();
        long before = allocated();
        BaggageHandling x = Check.plantAfter(5);
        long made = allocated() - before;
        CHECK.due("bytes for a new object: " + made, made < 400000, true);
        x.latestDelay(0, 0);
        x.slip(0);
        long start = allocated();
        for (int i = 0; i < 60; i++) {
            x.latestDelay(0, 0);
            x.bestInlet(1, 300);
            x.ticksToChute(0, 300);
            x.forecastState(0, 300);
            x.forecastDelivered(300);
            x.checkIn(0, 7001, 15, 8001, 15, 2);
            x.run(5);
            x.undo();
        }
        long used = allocated() - start;
        CHECK.due("bytes for 480 calls: " + used, used < 20000, true);
    }
}
