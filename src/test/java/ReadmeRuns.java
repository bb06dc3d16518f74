import java.io.File;
import java.io.IOException;
import java.net.URL;
import java.net.URLClassLoader;
import java.nio.file.Files;
import java.nio.file.Path;
import java.util.Comparator;
import java.util.List;
import java.util.regex.Matcher;
import java.util.regex.Pattern;
import java.util.stream.Stream;
import javax.tools.ToolProvider;

/**
 * The calls that README.md shows, with the answers that it gives for them. Its Java is compiled as it
 * stands there, but for the answers behind the calls, which are asked for.
 */
public final class ReadmeRuns {
    private static final Path README = Path.of("README.md");
    private static final Pattern BLOCK = Pattern.compile("(?ms)^```java\\n(.*?)^```$");
    /** A call, its answer, the name of the answer if it has one, and what is said of it. */
    private static final Pattern CALL = Pattern.compile("(x\\.(\\w+)\\(.*?\\)); +// (-?\\d+)(?: \\((\\w+)\\))?(?:: .+)?");
    private static final Pattern ROW = Pattern.compile("(?m)^\\| `([A-Z]+)` \\| (-?\\d+) \\|");
    private static final List<String> METHODS = List.of(
        "write", "erase", "program", "fault", "instant", "undo", "restart", "state", "would", "found", "waits", "ring",
        "states", "soon", "part", "node", "count");
    private static final Check CHECK = new Check();

    public static void main(String[] args) throws Exception {
        String readme = Files.readString(README);
        codes(readme);
        for (String method : METHODS) {
            CHECK.holds("README.md shows " + method, readme.contains("x." + method + "("));
        }
        for (String part : List.of(".ci/run", "../shared/tests", "src/test/java")) {
            CHECK.holds("README.md speaks of " + part, readme.contains(part));
        }
        runCalls(readme);
        CHECK.end("ReadmeRuns");
    }

    /** Called by the program that is made of README.md. */
    public static void due(String call, int got, int want) {
        CHECK.due(call, got, want);
    }

    private static int constant(String name) throws ReflectiveOperationException {
        return SettledInstants.class.getField(name).getInt(null);
    }

    private static void codes(String readme) throws ReflectiveOperationException {
        Matcher rows = ROW.matcher(readme);
        StringBuilder names = new StringBuilder();
        while (rows.find()) {
            CHECK.due("the number of " + rows.group(1), Integer.parseInt(rows.group(2)), constant(rows.group(1)));
            names.append(rows.group(1)).append(' ');
        }
        CHECK.holds("all codes are told, in their order: " + names, names.toString().equals("UNKNOWN OUTSIDE NOT FULL NONE "));
    }

    private static void runCalls(String readme) throws Exception {
        Path made = Files.createTempDirectory("readme");
        try {
            Path source = made.resolve("ReadmeCalls.java");
            Files.writeString(source, programOf(readme));
            int failed = ToolProvider.getSystemJavaCompiler().run(null, System.out, System.out,
                "-cp", System.getProperty("java.class.path"), "-d", made.toString(), source.toString());
            CHECK.due("the compiler on the calls of README.md", failed, 0);
            if (failed == 0) {
                try (URLClassLoader loader = new URLClassLoader(new URL[] {made.toUri().toURL()})) {
                    loader.loadClass("ReadmeCalls").getMethod("run").invoke(null);
                }
            }
        } finally {
            remove(made);
        }
    }

    /** Each block has its own variables. */
    private static String programOf(String readme) throws ReflectiveOperationException {
        StringBuilder made = new StringBuilder("public final class ReadmeCalls {\n    public static void run() {\n");
        Matcher blocks = BLOCK.matcher(readme);
        int number = 0;
        while (blocks.find()) {
            number++;
            made.append("{\n");
            for (String line : blocks.group(1).split("\n")) {
                made.append(lineOf(line, number)).append('\n');
            }
            made.append("}\n");
        }
        CHECK.holds("README.md shows calls", number > 0);
        return made.append("    }\n}\n").toString();
    }

    private static String lineOf(String line, int block) throws ReflectiveOperationException {
        Matcher call = CALL.matcher(line);
        if (!call.matches()) {
            CHECK.holds("an answer stands behind " + line, !line.startsWith("x.") && !line.contains("//"));
            return line;
        }
        if (call.group(4) != null) {
            CHECK.due("the number of " + line, Integer.parseInt(call.group(3)), constant(call.group(4)));
        }
        String name = "block " + block + ": " + call.group(1);
        return "ReadmeRuns.due(\"" + name + "\", " + call.group(1) + ", " + call.group(3) + ");";
    }

    private static void remove(Path directory) throws IOException {
        try (Stream<Path> files = Files.walk(directory)) {
            files.sorted(Comparator.reverseOrder()).map(Path::toFile).forEach(File::delete);
        }
    }
}
