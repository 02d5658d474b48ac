import java.io.IOException;
import java.lang.reflect.InvocationTargetException;
import java.net.URL;
import java.net.URLClassLoader;
import java.nio.file.Files;
import java.nio.file.Path;
import java.util.ArrayList;
import java.util.Comparator;
import java.util.List;
import java.util.regex.Matcher;
import java.util.regex.Pattern;
import java.util.stream.Stream;

/** README.md is followed: its lines of Java, put into one method, answer what it says behind each of them. */
public final class ReadmeTest {
    private static final Pattern ANSWERED =
        Pattern.compile("(int (\\w+) = )?(x\\.\\w+\\(.*\\)); +// (throws )?(-?\\w+)(:.*)?");
    private static final Pattern CALLED = Pattern.compile("x\\.(\\w+)\\(");
    private static final String MADE = "FieldMember x = new FieldMember();";
    private static final String[] FACE = {
        "type", "face", "below", "field", "constant", "value", "member", "parameter", "end", "entry", "shape",
        "parameterOf", "sought", "argument", "call", "way", "lacks", "count", "broken", "clear"};

    private static int asked = 0;
    private static int wrong = 0;

    public static void main(String[] args) throws Exception {
        List<String> lines = linesOfJava(Files.readAllLines(Path.of("README.md")));
        checkAllIsTold(lines);
        Path folder = Files.createTempDirectory("readme");
        try {
            follow(folder, program(lines));
        } finally {
            remove(folder);
        }
        System.out.println("README.md: " + asked + " lines followed, " + wrong + " wrong");
        if (wrong != 0 || asked == 0) {
            System.exit(1);
        }
    }

    /** Called by the program that is made of the lines. */
    public static void due(String line, long got, long want) {
        asked++;
        if (got != want) {
            say(line + " answered " + got);
        }
    }

    public static void dueThrown(String line, String thrown, String want) {
        asked++;
        if (!thrown.equals(want)) {
            say(line + " threw " + thrown);
        }
    }

    private static void say(String fault) {
        wrong++;
        System.out.println("README.md: " + fault);
    }

    private static List<String> linesOfJava(List<String> readme) {
        List<String> lines = new ArrayList<>();
        boolean inside = false;
        for (String each : readme) {
            if (each.startsWith("```")) {
                inside = each.equals("```java");
            } else if (inside && !each.isBlank()) {
                lines.add(each);
            }
        }
        return lines;
    }

    /** Someone who learns the class from the README meets every call of the face. */
    private static void checkAllIsTold(List<String> lines) {
        List<String> missing = new ArrayList<>(List.of(FACE));
        for (String each : lines) {
            Matcher called = CALLED.matcher(each);
            while (called.find()) {
                missing.remove(called.group(1));
            }
        }
        if (!missing.isEmpty()) {
            say("does not show " + missing);
        }
    }

    private static String program(List<String> lines) {
        StringBuilder text = new StringBuilder("public final class Followed {\n  public static void run() {\n");
        for (String each : lines) {
            text.append("    ").append(each.equals(MADE) ? each : checked(each)).append('\n');
        }
        return text.append("  }\n}\n").toString();
    }

    private static String checked(String line) {
        Matcher parts = ANSWERED.matcher(line);
        if (!parts.matches()) {
            say("does not tell what this answers: " + line);
            return "";
        }
        String call = parts.group(3);
        String told = "\"" + line.replaceAll(" +", " ") + "\"";
        String answer = Character.isLetter(parts.group(5).charAt(0)) ? "FieldMember." + parts.group(5) : parts.group(5);
        if (parts.group(4) != null) {
            return "{ String thrown = \"nothing\"; try { " + call + "; }"
                + " catch (RuntimeException e) { thrown = e.getClass().getSimpleName(); }"
                + " ReadmeTest.dueThrown(" + told + ", thrown, \"" + parts.group(5) + "\"); }";
        }
        if (parts.group(1) != null) {
            return parts.group(1) + call + "; ReadmeTest.due(" + told + ", " + parts.group(2) + ", " + answer + ");";
        }
        return "ReadmeTest.due(" + told + ", " + call + ", " + answer + ");";
    }

    private static void follow(Path folder, String program)
        throws IOException, InterruptedException, ReflectiveOperationException {
        Path source = folder.resolve("Followed.java");
        Files.writeString(source, program);
        Process compiler = new ProcessBuilder("javac", "-cp", System.getProperty("java.class.path"),
            "-d", folder.toString(), source.toString()).inheritIO().start();
        if (compiler.waitFor() != 0) {
            say("has Java that does not compile");
            return;
        }
        try (URLClassLoader loader = new URLClassLoader(new URL[] {folder.toUri().toURL()})) {
            loader.loadClass("Followed").getMethod("run").invoke(null);
        } catch (InvocationTargetException e) {
            say("leads to " + e.getCause());
        }
    }

    private static void remove(Path folder) throws IOException {
        try (Stream<Path> all = Files.walk(folder)) {
            for (Path each : all.sorted(Comparator.reverseOrder()).toList()) {
                Files.delete(each);
            }
        }
    }
}
