import java.io.IOException;
import java.lang.reflect.InvocationTargetException;
import java.net.URL;
import java.net.URLClassLoader;
import java.nio.file.Files;
import java.nio.file.Path;
import java.util.List;
import java.util.Set;
import java.util.TreeSet;
import java.util.regex.MatchResult;
import java.util.regex.Matcher;
import java.util.regex.Pattern;
import java.util.stream.Collectors;
import java.util.stream.Stream;
import javax.tools.JavaCompiler;
import javax.tools.ToolProvider;

/** README.md: its examples answer as it says, and it names every call and every test. */
public final class ReadmeTest {
    private static final Due due = new Due();
    private static final Pattern BLOCK = Pattern.compile("```java\n(.*?)```", Pattern.DOTALL);
    private static final Pattern ANSWERED = Pattern.compile("(int \\w+ = )?(x\\.\\w+\\(.*\\)); +// (-?\\w+).*");

    public static void main(String[] args) throws Exception {
        String readme = Files.readString(Path.of("README.md"));
        calls(readme);
        answersThatSayNo(readme);
        tests(readme);
        examples(readme);
        due.end();
    }

    /** Its rows of calls are the document's face, by names and in order. */
    private static void calls(String readme) throws IOException {
        String doc = Files.readString(Path.of("../shared/DOC.md"));
        String face = found("    public int (\\w+)\\(([^)]*)\\);", doc)
                .map(m -> m.group(1) + "(" + m.group(2).replaceAll("(int|long) ", "") + ")")
                .collect(Collectors.joining("\n"));
        String rows = found("(?m)^\\| `(\\w+\\([^)]*\\))` \\|", readme).map(m -> m.group(1))
                .collect(Collectors.joining("\n"));
        due.are("calls", rows, face);
    }

    private static void answersThatSayNo(String readme) {
        String told = found("(?m)^\\| (-\\d+) \\| `?([\\w ,]+)`? \\|", readme)
                .map(m -> m.group(1) + " " + m.group(2)).collect(Collectors.joining("; "));
        due.are("answers that say no", told, GradedHouses.NONE + " NONE; " + GradedHouses.BAD + " BAD; "
                + GradedHouses.STATE + " STATE; " + GradedHouses.FULL + " FULL; "
                + Due.NULL + " finding 1, NULL; " + Due.PLACE + " finding 2, PLACE; " + Due.KIND + " finding 3, KIND; "
                + Due.SIZE + " finding 4, SIZE; " + Due.STORE + " finding 5, STORE");
    }

    private static void tests(String readme) throws IOException {
        Set<String> named = found("(?m)^\\| (\\w+Test) \\|", readme).map(m -> m.group(1))
                .collect(Collectors.toCollection(TreeSet::new));
        try (Stream<Path> files = Files.list(Path.of("src/test/java"))) {
            Set<String> there = files.map(f -> f.getFileName().toString()).filter(f -> f.endsWith("Test.java"))
                    .map(f -> f.replace(".java", "")).collect(Collectors.toCollection(TreeSet::new));
            due.are("tests", named.toString(), there.toString());
        }
    }

    private static Stream<MatchResult> found(String pattern, String text) {
        return Pattern.compile(pattern).matcher(text).results();
    }

    private static void examples(String readme) throws Exception {
        String program = programOf(readme);
        Path room = Files.createTempDirectory("readme");
        Path source = room.resolve("ReadmeExamples.java");
        Files.writeString(source, program);
        JavaCompiler compiler = ToolProvider.getSystemJavaCompiler();
        int refused = compiler.run(null, null, null, "-d", room.toString(),
                "-cp", System.getProperty("java.class.path"), source.toString());
        due.is("what javac says of the examples", refused, 0);
        if (refused == 0) {
            runExamples(room);
        }
        for (String name : new String[] {"ReadmeExamples.class", "ReadmeExamples.java", ""}) {
            Files.deleteIfExists(room.resolve(name));
        }
    }

    private static void runExamples(Path room) throws Exception {
        try (URLClassLoader loader = new URLClassLoader(new URL[] {room.toUri().toURL()})) {
            Object rows = loader.loadClass("ReadmeExamples").getMethod("rows").invoke(null);
            for (Object row : (List<?>) rows) {
                String[] cells = row.toString().split("\t");
                due.is("README: " + cells[0], Long.parseLong(cells[1]), Long.parseLong(cells[2]));
            }
        } catch (InvocationTargetException thrown) {
            due.are("an example", thrown.getCause().toString(), "nothing thrown");
        }
    }

    /** A block that begins with 'static' is a method; any other one is a run on a new object. */
    private static String programOf(String readme) {
        StringBuilder members = new StringBuilder();
        StringBuilder runs = new StringBuilder();
        Matcher block = BLOCK.matcher(readme);
        while (block.find()) {
            if (block.group(1).startsWith("static")) {
                members.append(block.group(1));
            } else {
                runs.append("{ GradedHouses x = new GradedHouses();\n");
                block.group(1).lines().forEach(line -> runs.append(looked(line)).append('\n'));
                runs.append("}\n");
            }
        }
        return "public final class ReadmeExamples {\n"
                + "static java.util.List<String> rows = new java.util.ArrayList<>();\n"
                + "static int row(String call, int got, int want) {"
                + " rows.add(call + \"\\t\" + got + \"\\t\" + want); return got; }\n"
                + members + "public static java.util.List<String> rows() {\n" + runs + "return rows; }\n}\n";
    }

    private static String looked(String line) {
        Matcher m = ANSWERED.matcher(line);
        if (!m.matches()) {
            due.is("README: calls without an answer in: " + line, line.contains("x.") ? 1 : 0, 0);
            return line;
        }
        String want = m.group(3).matches("[A-Z]+") ? "GradedHouses." + m.group(3) : m.group(3);
        return (m.group(1) == null ? "" : m.group(1)) + "row(\"" + m.group(2) + "\", " + m.group(2) + ", " + want + ");";
    }
}
