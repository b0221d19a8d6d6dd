import java.io.IOException;
import java.net.URL;
import java.net.URLClassLoader;
import java.nio.file.Files;
import java.nio.file.Path;
import java.util.ArrayList;
import java.util.Comparator;
import java.util.List;
import java.util.regex.Matcher;
import java.util.regex.Pattern;
import java.util.stream.Stream;

/** README.md's examples, compiled and run: each call answers what the comment behind it tells. */
public final class ReadmeTest {
    private static final Pattern TOLD = Pattern.compile("(house\\.\\w+\\(.*\\)); +// (-?\\d+|true|false)\\b.*");
    private static final Pattern CALLED = Pattern.compile("house\\.(\\w+)\\(");
    private static final String[] FACE = {"feed", "letters", "word", "sub", "letter", "ask", "fault", "begin", "run", "cell", "about",
        "index", "rename", "lead", "is", "within", "power", "cycles", "least", "farthest", "out", "low", "lowly", "small", "size",
        "normal", "keep", "back", "sheet", "put", "check", "trouble", "where"};

    public static void main(String[] args) throws Exception {
        List<String> blocks = blocks(Files.readString(Path.of("README.md")));
        int wrong = missing(blocks);
        Path room = Files.createTempDirectory("readme");
        try {
            wrong += run(source(blocks), room);
        } finally {
            remove(room);
        }
        System.out.println(wrong == 0 ? "all answers are as told" : wrong + " are not as told");
        if (wrong != 0) System.exit(1);
    }

    private static List<String> blocks(String readme) {
        List<String> all = new ArrayList<>();
        Matcher m = Pattern.compile("```java\n(.*?)```", Pattern.DOTALL).matcher(readme);
        while (m.find()) all.add(m.group(1));
        return all;
    }

    /** So that an example that is gone, or is read by nobody, is seen. */
    private static int missing(List<String> blocks) {
        List<String> called = new ArrayList<>();
        Matcher m = CALLED.matcher(String.join("", blocks));
        while (m.find()) called.add(m.group(1));
        int wrong = 0;
        for (String name : FACE)
            if (!called.contains(name)) {
                System.out.println("README.md has no call of " + name + "()");
                wrong++;
            }
        return wrong;
    }

    private static String source(List<String> blocks) {
        StringBuilder methods = new StringBuilder();
        StringBuilder calls = new StringBuilder();
        for (String block : blocks) {
            if (block.startsWith("static ")) methods.append(block);
            else for (String line : block.split("\n")) calls.append(checked(line)).append('\n');
        }
        return "public final class Told {\nstatic int wrong = 0;\n"
            + "static void due(String call, Object got, Object want) {\n"
            + "if (!got.equals(want)) { wrong++; System.out.println(call + \" answered \" + got + \", told is \" + want); }\n}\n"
            + methods + "public static int run() {\n" + calls + "return wrong;\n}\n}\n";
    }

    private static String checked(String line) {
        Matcher m = TOLD.matcher(line);
        if (!m.matches()) return line;
        return "due(\"" + m.group(1) + "\", " + m.group(1) + ", " + m.group(2) + ");";
    }

    private static int run(String source, Path room) throws Exception {
        Path file = Files.writeString(room.resolve("Told.java"), source);
        String classes = System.getProperty("java.class.path");
        // By the command, as .ci/run has it: not every java can compile by itself.
        int failed = new ProcessBuilder("javac", "-encoding", "UTF-8", "-cp", classes, "-d", room.toString(), file.toString())
            .inheritIO().start().waitFor();
        if (failed != 0) return 1;
        try (URLClassLoader loader = new URLClassLoader(new URL[] {room.toUri().toURL()}, ReadmeTest.class.getClassLoader())) {
            return (int) loader.loadClass("Told").getMethod("run").invoke(null);
        }
    }

    private static void remove(Path room) throws IOException {
        try (Stream<Path> all = Files.walk(room)) {
            for (Path p : all.sorted(Comparator.reverseOrder()).toList()) Files.delete(p);
        }
    }
}
