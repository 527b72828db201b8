import java.io.IOException;
import java.net.URL;
import java.net.URLClassLoader;
import java.nio.file.Files;
import java.nio.file.Path;
import java.util.ArrayList;
import java.util.List;
import java.util.Set;
import java.util.TreeSet;
import java.util.regex.Matcher;
import java.util.regex.Pattern;
import java.util.stream.Collectors;
import java.util.stream.Stream;
import javax.tools.JavaCompiler;
import javax.tools.ToolProvider;

/**
 * What README.md shows holds. Its calls under "How to use it" are one program: here they are put into a class, each with
 * the answer that stands behind it, and that class is compiled and run. What it says of the tests is looked up.
 */
public final class ReadmeTest {
    private static final Path PAGE = Path.of("README.md");
    private static final Path SCRIPT = Path.of(".ci/run");
    private static final Path TESTS = Path.of("src/test/java");
    private static final Pattern CALL = Pattern.compile("\\w+\\.\\w+\\(.*");
    private static final Pattern SHOWN = Pattern.compile(
            "(\\w+)\\.(\\w+)(\\(.*\\));\\s+// (-?\\d+|true|false|NONE)(?:: .*)?");
    private static final Set<String> WITHOUT_STATUS = Set.of("status", "top", "bottom", "feed", "fault");

    /** A block between two fences, and the line of README.md on which it begins. */
    private record Block(String kind, int line, List<String> lines) {
    }

    private static int answers = 0;

    public static void main(String[] args) throws Exception {
        List<String> page = Files.readAllLines(PAGE);
        runShown(blocks(page, "## How to use it"));
        List<Block> ofTests = blocks(page, "## How to run its tests");
        testsAreListed(page);
        printedIsInScript(ofTests);
        testsShownAreThere(ofTests);
        Check.end("ReadmeTest");
    }

    /** Called by the program that is made from the page. */
    public static void shown(int line, String call, Object got, String want, int status) {
        answers++;
        String due = want.equals("NONE") ? String.valueOf(GivenUp.NONE) : want;
        hold("line " + line + ": " + call + " is shown with " + want + ", answered " + got, String.valueOf(got).equals(due));
        String name = call.substring(call.indexOf('.') + 1, call.indexOf('('));
        if (!WITHOUT_STATUS.contains(name)) {
            boolean refused = want.equals("NONE") || want.equals("false");
            hold("line " + line + ": " + call + " has STATUS " + status, (status != 0) == refused);
        }
    }

    private static void hold(String what, boolean holds) {
        Check.due(what, holds, true);
    }

    private static List<Block> blocks(List<String> page, String chapter) {
        List<Block> found = new ArrayList<>();
        boolean within = false;
        Block open = null;
        for (int i = 0; i < page.size(); i++) {
            String line = page.get(i);
            if (open != null && line.equals("```")) {
                found.add(open);
                open = null;
            } else if (open != null) {
                open.lines.add(line);
            } else if (line.startsWith("## ")) {
                within = line.equals(chapter);
            } else if (within && line.startsWith("```")) {
                open = new Block(line.substring(3), i + 2, new ArrayList<>());
            }
        }
        hold("each block is closed in " + chapter, open == null);
        hold("there are blocks in " + chapter, !found.isEmpty());
        return found;
    }

    private static void runShown(List<Block> blocks) throws Exception {
        StringBuilder functions = new StringBuilder();
        StringBuilder main = new StringBuilder();
        for (Block block : blocks) {
            if (block.kind.equals("java") && block.lines.get(0).startsWith("static ")) {
                functions.append(String.join("\n", block.lines)).append('\n');
            } else if (block.kind.equals("java")) {
                putCalls(block, main);
            }
        }
        String program = "public final class Shown {\n" + functions + "public static void main(String[] none) {\n" + main + "}\n}\n";
        Path place = Files.createTempDirectory("shown");
        try {
            runProgram(place, program);
        } finally {
            remove(place);
        }
        hold("README.md shows calls, and they are run: " + answers, answers > 0);
    }

    private static void putCalls(Block block, StringBuilder main) {
        for (int i = 0; i < block.lines.size(); i++) {
            String line = block.lines.get(i);
            Matcher shown = SHOWN.matcher(line);
            if (shown.matches()) {
                String call = shown.group(1) + "." + shown.group(2) + shown.group(3);
                main.append("ReadmeTest.shown(").append(block.line + i).append(", \"")
                        .append(call.replace("\\", "\\\\").replace("\"", "\\\"")).append("\", ").append(call)
                        .append(", \"").append(shown.group(4)).append("\", ").append(shown.group(1)).append(".status());\n");
            } else {
                hold("line " + (block.line + i) + ": a call is shown without its answer: " + line, !CALL.matcher(line).matches());
                main.append(line).append('\n');
            }
        }
    }

    private static void runProgram(Path place, String program) throws Exception {
        Path source = place.resolve("Shown.java");
        Files.writeString(source, program);
        JavaCompiler javac = ToolProvider.getSystemJavaCompiler();
        int failed = javac == null ? 1 : javac.run(null, null, null,
                "-cp", System.getProperty("java.class.path"), "-d", place.toString(), source.toString());
        hold("what README.md shows compiles" + (javac == null ? ", by a JDK's java" : ""), failed == 0);
        if (failed == 0) {
            try (URLClassLoader loader = new URLClassLoader(new URL[] {place.toUri().toURL()})) {
                loader.loadClass("Shown").getMethod("main", String[].class).invoke(null, (Object) new String[0]);
            }
        }
    }

    private static void remove(Path place) throws IOException {
        try (Stream<Path> files = Files.list(place)) {
            for (Path file : files.toList()) {
                Files.delete(file);
            }
        }
        Files.delete(place);
    }

    /** The table of tests has a row for each test that .ci/run runs, and no other. */
    private static void testsAreListed(List<String> page) throws IOException {
        Set<String> listed = new TreeSet<>();
        for (String line : page) {
            Matcher row = Pattern.compile("\\| `(\\w+Test)` \\|.*").matcher(line);
            if (row.matches()) {
                listed.add(row.group(1));
            }
        }
        try (Stream<Path> files = Files.list(TESTS)) {
            Set<String> there = files.map(f -> f.getFileName().toString()).filter(n -> n.endsWith("Test.java"))
                    .map(n -> n.replace(".java", "")).collect(Collectors.toCollection(TreeSet::new));
            hold("the tests that README.md lists are those that are there: " + listed + ", " + there, listed.equals(there));
        }
    }

    /** The lines that README.md shows as printed are printed by the script, but for the name of a test. */
    private static void printedIsInScript(List<Block> blocks) throws IOException {
        String script = Files.readString(SCRIPT);
        int lines = 0;
        for (Block block : blocks) {
            if (block.kind.equals("text")) {
                for (String line : block.lines) {
                    String printed = line.replaceFirst("(?<=^(passed|FAILED): )\\w+$", "");
                    hold(".ci/run prints: " + line, script.contains("echo \"" + printed));
                    lines++;
                }
            }
        }
        hold("README.md shows what .ci/run prints", lines > 0);
    }

    /** A test that README.md shows a piece of stands so in one of the files. */
    private static void testsShownAreThere(List<Block> blocks) throws IOException {
        StringBuilder all = new StringBuilder();
        try (Stream<Path> files = Files.list(TESTS)) {
            for (Path file : files.sorted().toList()) {
                all.append(Files.readString(file).replaceAll("(?m)^ +", ""));
            }
        }
        for (Block block : blocks) {
            if (block.kind.equals("java")) {
                hold("line " + block.line + ": such a test is there", all.indexOf(String.join("\n", block.lines)) >= 0);
            }
        }
    }
}
