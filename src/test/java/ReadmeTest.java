import java.io.IOException;
import java.lang.reflect.Method;
import java.net.URL;
import java.net.URLClassLoader;
import java.nio.file.Files;
import java.nio.file.Path;
import java.util.List;
import java.util.regex.Matcher;
import java.util.regex.Pattern;

/** The examples of README.md, taken from there: they compile, and each call answers what the comment behind it says. */
public final class ReadmeTest {
    private static final Check CHECK = new Check();
    private static final Pattern ANSWERED = Pattern.compile("(?:int (\\w+) = )?(x\\.\\w+\\(.*\\)); +// (-?\\d+|true|false)\\b.*");
    private static int answered = 0;

    public static void main(String[] args) throws Exception {
        List<String> lines = Files.readAllLines(Path.of("README.md"));
        Path directory = Files.createTempDirectory("readme");
        try {
            play(lines, directory);
        } finally {
            remove(directory);
        }
        CHECK.due("examples with an answer", answered >= 20, true);
        namesEveryCall(String.join("\n", lines));
        CHECK.end();
    }

    /** The example calls this for each answer. */
    public static void answer(String line, Object got, Object want) {
        answered++;
        CHECK.due("README.md: " + line, String.valueOf(got), String.valueOf(want));
    }

    private static void play(List<String> lines, Path directory) throws Exception {
        Path file = directory.resolve("ReadmeExample.java");
        Files.writeString(file, program(lines));
        int code = new ProcessBuilder("javac", "-cp", System.getProperty("java.class.path"), "-d", directory.toString(),
            file.toString()).inheritIO().start().waitFor();
        CHECK.due("compiling the examples", code, 0);
        if (code == 0) {
            try (URLClassLoader loader = new URLClassLoader(new URL[] {directory.toUri().toURL()})) {
                loader.loadClass("ReadmeExample").getMethod("play").invoke(null);
            }
        }
    }

    /** A block that begins with a method stands in the class as it is; the lines of all others stand in one method. */
    private static String program(List<String> lines) {
        StringBuilder methods = new StringBuilder();
        StringBuilder body = new StringBuilder();
        StringBuilder target = null;
        boolean inside = false;
        for (String line : lines) {
            if (line.startsWith("```")) {
                inside = line.equals("```java");
                target = null;
            } else if (inside) {
                if (target == null) {
                    target = line.startsWith("static ") ? methods : body;
                }
                target.append(checked(line)).append('\n');
            }
        }
        return "public class ReadmeExample {\n" + methods + "public static void play() {\n" + body + "}\n}\n";
    }

    private static String checked(String line) {
        Matcher m = ANSWERED.matcher(line);
        if (!m.matches()) {
            return line;
        }
        String shown = '"' + line.replace("\"", "'") + '"';
        String got = m.group(1) == null ? m.group(2) : m.group(1);
        String first = m.group(1) == null ? "" : "int " + m.group(1) + " = " + m.group(2) + ";\n";
        return first + "ReadmeTest.answer(" + shown + ", " + got + ", " + m.group(3) + ");";
    }

    private static void namesEveryCall(String readme) {
        for (Method m : BaggageHandling.class.getMethods()) {
            if (m.getDeclaringClass() == BaggageHandling.class) {
                CHECK.due("README.md names " + m.getName(), readme.contains("`" + m.getName() + "`"), true);
            }
        }
    }

    private static void remove(Path directory) throws IOException {
        try (var files = Files.list(directory)) {
            for (Path file : files.toList()) {
                Files.delete(file);
            }
        }
        Files.delete(directory);
    }
}
