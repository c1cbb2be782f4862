import java.io.IOException;
import java.nio.file.Files;
import java.nio.file.Path;
import java.nio.file.StandardCopyOption;
import java.util.Comparator;
import java.util.List;
import java.util.stream.Stream;

/** .ci/run itself, in small projects of its own: it passes if all tests do, and else it fails. */
public final class ScriptTest {
    private static final Check CHECK = new Check();
    private static final String CLASS = "public final class ClassHouse { }";
    private static final String GOOD = "new ClassHouse();";
    private static final String WRONG = "System.exit(1);";
    private static final String NO_JAVA = "this is no Java;";

    public static void main(String[] args) throws IOException, InterruptedException {
        due("all pass", GOOD, GOOD, "2 passed, 0 failed");
        due("a test of the project fails", WRONG, GOOD, "1 passed, 1 failed");
        due("a shared test fails", GOOD, WRONG, "1 passed, 1 failed");
        due("a test of the project is no Java", NO_JAVA, GOOD, "1 passed, 1 failed");
        due("a shared test is no Java", GOOD, NO_JAVA, "1 passed, 1 failed");
        due("there is no shared test", GOOD, "", "1 passed, 1 failed");
        CHECK.end();
    }

    private static void write(Path file, String text) throws IOException {
        Files.createDirectories(file.getParent());
        Files.writeString(file, text);
    }

    private static String test(String name, String does) {
        return "public final class " + name + " { public static void main(String[] args) { " + does
                + " } }";
    }

    private static void due(String what, String own, String shared, String want)
            throws IOException, InterruptedException {
        Path room = Files.createTempDirectory("script");
        Path script = room.resolve("main/.ci/run");
        write(room.resolve("main/src/main/java/ClassHouse.java"), CLASS);
        write(room.resolve("main/src/test/java/OwnTest.java"), test("OwnTest", own));
        if (!shared.isEmpty()) {
            write(room.resolve("shared/tests/Runs.java"), test("Runs", shared));
        }
        Files.createDirectories(script.getParent());
        Files.copy(Path.of(".ci/run"), script, StandardCopyOption.COPY_ATTRIBUTES);
        Path output = room.resolve("output");
        Process process = new ProcessBuilder("bash", script.toString()).directory(room.toFile())
                .redirectErrorStream(true).redirectOutput(output.toFile()).start();
        boolean passed = process.waitFor() == 0;
        List<String> lines = Files.readAllLines(output);
        CHECK.due(what + ": it passes", passed, want.endsWith(" 0 failed"));
        CHECK.due(what + ": its last line", lines.get(lines.size() - 1), want);
        try (Stream<Path> files = Files.walk(room)) {
            files.sorted(Comparator.reverseOrder()).forEach(file -> file.toFile().delete());
        }
    }
}
