import java.io.File;
import java.io.IOException;
import java.lang.reflect.Method;
import java.lang.reflect.Modifier;
import java.net.URL;
import java.net.URLClassLoader;
import java.nio.file.Files;
import java.nio.file.Path;
import java.util.ArrayList;
import java.util.List;
import java.util.regex.Matcher;
import java.util.regex.Pattern;
import javax.tools.ToolProvider;

/** What README.md tells is so: its example, its tables, the files and the command that it names. */
public final class ReadmeTest {
    private static final Check CHECK = new Check();
    private static final Path SOURCE = Path.of("src/main/java/ClassHouse.java");
    private static final Path TESTS = Path.of("src/test/java");
    private static final Pattern CALL =
            Pattern.compile("(house\\.\\w+\\(.*\\)); +// ([^:]+)(:.*)?");

    public static void main(String[] args) throws Exception {
        String readme = Files.readString(Path.of("README.md"));
        tryExample(block(readme, "java"));
        tellsOfEachCall(readme);
        tellsOfEachFault(readme);
        namesEachFile(readme);
        namesTheCommand(readme);
        CHECK.end();
    }

    private static String block(String readme, String kind) {
        Matcher m = Pattern.compile("(?s)```" + kind + "\n(.*?)```").matcher(readme);
        return m.find() ? m.group(1) : "";
    }

    /** A program that takes each line of the example and tells what it answered. */
    private static String programOf(List<String> calls) {
        StringBuilder text = new StringBuilder("import java.util.List;\n"
                + "public final class Tried {\npublic static void tryAll(List<String> answers) {\n"
                + "ClassHouse house = new ClassHouse();\n");
        for (String call : calls) {
            text.append("try { answers.add(\"\" + ").append(call).append("); }\n")
                    .append("catch (RuntimeException e) { answers.add(\"throws \" ")
                    .append("+ e.getClass().getSimpleName()); }\n");
        }
        return text.append("}\n}\n").toString();
    }

    private static List<String> answersTo(List<String> calls) throws Exception {
        Path room = Files.createTempDirectory("readme");
        Path program = room.resolve("Tried.java");
        Files.writeString(program, programOf(calls));
        CHECK.due("what the compiler says of the example", ToolProvider.getSystemJavaCompiler().run(
                null, null, null, "-d", room.toString(), SOURCE.toString(), program.toString()), 0);
        List<String> answers = new ArrayList<>();
        try (URLClassLoader loader = new URLClassLoader(new URL[] {room.toUri().toURL()}, null)) {
            loader.loadClass("Tried").getMethod("tryAll", List.class).invoke(null, answers);
        }
        remove(room);
        return answers;
    }

    private static void remove(Path room) {
        for (File file : room.toFile().listFiles()) {
            file.delete();
        }
        room.toFile().delete();
    }

    private static void tryExample(String example) throws Exception {
        List<String> calls = new ArrayList<>();
        List<String> due = new ArrayList<>();
        String[] lines = example.split("\n");
        CHECK.due("the first line", lines[0], "ClassHouse house = new ClassHouse();");
        for (int i = 1; i < lines.length; i++) {
            Matcher m = CALL.matcher(lines[i]);
            if (m.matches()) {
                calls.add(m.group(1));
                due.add(m.group(2).trim());
            } else {
                CHECK.due("a line of another kind: " + lines[i], lines[i].matches("|// .*"), true);
            }
        }
        List<String> answers = answersTo(calls);
        CHECK.due("how many answered", answers.size(), due.size());
        for (int i = 0; i < answers.size(); i++) {
            CHECK.due(calls.get(i), answers.get(i), due.get(i));
        }
        for (Method m : ClassHouse.class.getDeclaredMethods()) {
            if (Modifier.isPublic(m.getModifiers())) {
                CHECK.due("the example calls " + m.getName(),
                        example.contains("\nhouse." + m.getName() + "("), true);
            }
        }
    }

    private static void tellsOfEachCall(String readme) {
        Matcher row = Pattern.compile("\\| `(\\w+)\\((.*?)\\)` \\| .+ \\|\n").matcher(readme);
        List<String> told = new ArrayList<>();
        while (row.find()) {
            int count = row.group(2).isEmpty() ? 0 : row.group(2).split(", ").length;
            told.add(row.group(1) + " " + count);
        }
        List<String> there = new ArrayList<>();
        for (Method m : ClassHouse.class.getDeclaredMethods()) {
            if (Modifier.isPublic(m.getModifiers())) {
                there.add(m.getName() + " " + m.getParameterCount());
            }
        }
        told.sort(null);
        there.sort(null);
        CHECK.due("the calls that are told", told.toString(), there.toString());
    }

    private static void tellsOfEachFault(String readme) {
        String[] kinds = {
            "", "", "NoSuchElementException", "UnsupportedOperationException",
            "IllegalArgumentException", "IllegalStateException"
        };
        Matcher row = Pattern.compile("\\| (\\d+) \\| .+ \\| `(\\w+)` \\|\n").matcher(readme);
        List<Integer> told = new ArrayList<>();
        while (row.find()) {
            int fault = Integer.parseInt(row.group(1));
            told.add(fault);
            CHECK.due("what fault " + fault + " throws", row.group(2), kinds[House.kindOf(fault)]);
        }
        CHECK.due("the faults that are told", told.toString(),
                "[1, 2, 3, 4, 5, 6, 7, 8, 9, 10, 11, 13, 14, 15]");
    }

    private static void namesEachFile(String readme) throws IOException {
        try (var files = Files.list(TESTS)) {
            for (Path file : (Iterable<Path>) files::iterator) {
                String name = file.getFileName().toString().replace(".java", "");
                CHECK.due("README.md names " + name, readme.contains("`" + name + "`"), true);
            }
        }
        Matcher named = Pattern.compile("`(\\w+Test)`").matcher(readme);
        while (named.find()) {
            CHECK.due("there is " + named.group(1),
                    Files.exists(TESTS.resolve(named.group(1) + ".java")), true);
        }
        for (Class<?> c : ClassHouse.class.getDeclaredClasses()) {
            CHECK.due("README.md names " + c, readme.contains("`" + c.getSimpleName() + "`"), true);
        }
    }

    private static void namesTheCommand(String readme) {
        String command = block(readme, "sh").trim();
        CHECK.due("the command", command, ".ci/run");
        CHECK.due("it can be run", Files.isExecutable(Path.of(command)), true);
    }
}
