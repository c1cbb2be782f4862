import java.io.IOException;
import java.lang.reflect.Field;
import java.lang.reflect.Method;
import java.lang.reflect.Modifier;
import java.nio.file.Files;
import java.nio.file.Path;
import java.util.ArrayList;
import java.util.List;
import java.util.Set;
import java.util.regex.Matcher;
import java.util.regex.Pattern;

/** Those rules of LANGUAGE.md that can be seen in the text of the class and in its members. */
public final class LanguageTest {
    private static final Check CHECK = new Check();
    private static final Path SOURCE = Path.of("src/main/java/ClassHouse.java");
    private static final String EXCEPTIONS = "(IllegalStateException|IllegalArgumentException"
            + "|IndexOutOfBoundsException|ArithmeticException|UnsupportedOperationException"
            + "|NoSuchElementException|RuntimeException)";

    public static void main(String[] args) throws IOException {
        String code = Files.readString(SOURCE).replaceAll("(?s)/\\*.*?\\*/|//[^\n]*", "");
        hasNo(code);
        usesOnly(code);
        throwsAsListed(code);
        hasShortMethods(code);
        hasFewMembers();
        Calls calls = Calls.in(SOURCE);
        callsOnly(calls);
        goesNotDeep(calls);
        makesNothing(calls);
        CHECK.end();
    }

    private static void dueNone(String what, String code, String pattern) {
        Matcher m = Pattern.compile(pattern).matcher(code);
        CHECK.due(what, m.find() ? m.group() : "none", "none");
    }

    /** Rules 2, 3, 5, 6 and 13. */
    private static void hasNo(String code) {
        dueNone("a package line", code, "(?m)^package\\b");
        dueNone("a lambda or method reference", code, "->|::");
        dueNone("a word that is ruled out", code, "\\b(finally|synchronized|assert|volatile"
                + "|transient|native|protected|strictfp|Thread|Random|Object|var|yield)\\b");
        dueNone("doubles and floats", code, "\\b(double|float|Double|Float)\\b");
        dueNone("a static initialiser", code, "static\\s*\\{");
        dueNone("a static field that is not final", code,
                "\\bstatic (?!final|class|interface|enum|record)[\\w\\[\\]<>]+ \\w+\\s*[=;]");
        dueNone("an exception of its own", code, "extends\\s+\\w*Exception");
        dueNone("a rethrow or a look at an exception", code, "throw \\w+;|getMessage|getCause");
    }

    /** Rule 4. */
    private static void usesOnly(String code) {
        dueNone("another import", code, "(?m)^import (?!java\\.util\\.(Arrays|ArrayList|List"
                + "|Iterator|NoSuchElementException);)[^\n]*");
        dueNone("another function of Arrays", code, "\\bArrays\\.(?!copyOf\\(|copyOfRange\\("
                + "|fill\\()\\w+");
        dueNone("another function of System", code, "\\bSystem\\.(?!arraycopy\\()\\w+");
        dueNone("another function of Math", code, "\\bMath\\.(?!max\\(|min\\(|abs\\(|floorDiv\\("
                + "|floorMod\\()\\w+");
        dueNone("a full name", code, "\\bjava\\.(?!util\\.(Arrays|NoSuchElementException);)\\w+");
    }

    /** Rule 6. */
    private static void throwsAsListed(String code) {
        dueNone("another throw", code, "\\bthrow (?!new " + EXCEPTIONS + "\\((\"[^\"]*\")?\\);)"
                + "[^;]*");
        dueNone("a throw in a constructor", code, "(?s)\\n    public ClassHouse\\(\\) \\{"
                + "(?:(?!\\n    \\}).)*throw");
    }

    /** Rule 11: "Methods stay short (some sixty lines)", and take at most seven parameters. */
    private static void hasShortMethods(String code) {
        String[] lines = code.split("\n");
        int methods = 0;
        for (int i = 0; i < lines.length; i++) {
            String indent = lines[i].replaceAll("\\S.*", "");
            boolean begins = (indent.length() == 4 || indent.length() == 8)
                    && lines[i].matches("\\s+[a-zA-Z][^=;]*\\(.*") && !lines[i].contains(" new ");
            if (begins) {
                int end = i;
                while (end < lines.length && !lines[end].equals(indent + "}")) {
                    end++;
                }
                methods++;
                CHECK.due("the lines of" + lines[i], end - i < 60, true);
            }
        }
        CHECK.due("methods were found", methods > 50, true);
    }

    private static List<Class<?>> classes() {
        List<Class<?>> all = new ArrayList<>(List.of(ClassHouse.class.getDeclaredClasses()));
        all.add(ClassHouse.class);
        return all;
    }

    /** Rules 1, 2, 5 and 11. */
    private static void hasFewMembers() {
        CHECK.due("some twelve classes at most", classes().size() <= 12, true);
        for (Class<?> c : classes()) {
            if (c != ClassHouse.class) {
                CHECK.due(c + " is static", Modifier.isStatic(c.getModifiers()), true);
                CHECK.due(c + " is not public", Modifier.isPublic(c.getModifiers()), false);
            }
            int fields = 0;
            for (Field f : c.getDeclaredFields()) {
                boolean constant = Modifier.isStatic(f.getModifiers());
                fields += constant ? 0 : 1;
                CHECK.due(f + " is final if it is static",
                        !constant || Modifier.isFinal(f.getModifiers()), true);
            }
            CHECK.due(c + " has some twenty fields at most", fields <= 20, true);
            for (Method m : c.getDeclaredMethods()) {
                CHECK.due(m + " takes seven at most", m.getParameterCount() <= 7, true);
            }
        }
    }

    /** Rule 4, of all that is called. */
    private static void callsOnly(Calls calls) {
        int seen = 0;
        for (String method : calls.calls.keySet()) {
            for (String callee : calls.calls.get(method)) {
                boolean own = callee.startsWith("ClassHouse");
                seen += own ? 1 : 0;
                CHECK.due(method + " calls " + callee, own || callee.matches(
                        "java\\.util\\.Arrays\\.fill|java\\.lang\\.System\\.arraycopy"
                        + "|java\\.lang\\.Math\\.min"
                        + "|java\\.(lang|util)\\." + EXCEPTIONS + "\\.<init>"), true);
            }
        }
        CHECK.due("calls were found", seen > 100, true);
    }

    /** Rule 11: "calls that are no recursion go at most eight deep", the library's with them. */
    private static void goesNotDeep(Calls calls) {
        int deepest = 0;
        for (String method : calls.calls.keySet()) {
            List<String> chain = calls.longestFrom(method, Set.of());
            deepest = Math.max(deepest, chain.size());
            CHECK.due("eight deep at most: " + chain, chain.size() <= 8, true);
        }
        CHECK.due("chains were found", deepest > 4, true);
    }

    /** Rule 12, kept so that only constructors and throws make objects. */
    private static void makesNothing(Calls calls) {
        int seen = 0;
        for (String method : calls.made.keySet()) {
            boolean first = method.endsWith("<init>") || method.equals("fields");
            for (String what : calls.made.get(method)) {
                seen++;
                CHECK.due(method + " makes " + what,
                        first || what.matches(EXCEPTIONS), true);
            }
        }
        CHECK.due("objects were found that are made", seen > 20, true);
    }
}
