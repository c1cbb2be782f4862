import com.sun.source.tree.CompilationUnitTree;
import com.sun.source.tree.MethodInvocationTree;
import com.sun.source.tree.MethodTree;
import com.sun.source.tree.NewArrayTree;
import com.sun.source.tree.NewClassTree;
import com.sun.source.tree.Tree;
import com.sun.source.util.JavacTask;
import com.sun.source.util.TreePath;
import com.sun.source.util.TreePathScanner;
import com.sun.source.util.Trees;
import java.io.IOException;
import java.nio.file.Path;
import java.util.ArrayList;
import java.util.List;
import java.util.Map;
import java.util.Set;
import java.util.TreeMap;
import java.util.TreeSet;
import javax.lang.model.element.Element;
import javax.tools.JavaCompiler;
import javax.tools.StandardJavaFileManager;
import javax.tools.ToolProvider;

/** A source file as the compiler reads it: which method calls which, and what each one makes. */
final class Calls extends TreePathScanner<Void, Void> {
    /** What stands before all methods: the constants and the fields of a new object. */
    private static final String FIELDS = "fields";

    final Map<String, Set<String>> calls = new TreeMap<>();
    final Map<String, List<String>> made = new TreeMap<>();
    private final Trees trees;
    private String method = FIELDS;

    private Calls(Trees trees) {
        this.trees = trees;
    }

    static Calls in(Path source) throws IOException {
        JavaCompiler compiler = ToolProvider.getSystemJavaCompiler();
        try (StandardJavaFileManager files = compiler.getStandardFileManager(null, null, null)) {
            JavacTask task = (JavacTask) compiler.getTask(null, files, null,
                    List.of("-proc:none"), null, files.getJavaFileObjects(source.toFile()));
            Iterable<? extends CompilationUnitTree> units = task.parse();
            task.analyze();
            Calls calls = new Calls(Trees.instance(task));
            calls.scan(units, null);
            return calls;
        }
    }

    private String nameOf(Tree tree) {
        Element called = trees.getElement(new TreePath(getCurrentPath(), tree));
        return called == null ? "?" : called.getEnclosingElement() + "." + called.getSimpleName();
    }

    private void add(String callee) {
        calls.computeIfAbsent(method, m -> new TreeSet<>()).add(callee);
    }

    @Override
    public Void visitMethod(MethodTree tree, Void nothing) {
        Element element = trees.getElement(getCurrentPath());
        method = element.getEnclosingElement() + "." + element.getSimpleName();
        calls.computeIfAbsent(method, m -> new TreeSet<>());
        super.visitMethod(tree, nothing);
        method = FIELDS;
        return null;
    }

    @Override
    public Void visitMethodInvocation(MethodInvocationTree tree, Void nothing) {
        if (!tree.getMethodSelect().toString().equals("super")) {
            add(nameOf(tree.getMethodSelect()));
        }
        return super.visitMethodInvocation(tree, nothing);
    }

    @Override
    public Void visitNewClass(NewClassTree tree, Void nothing) {
        String what = tree.getIdentifier().toString();
        add(trees.getElement(getCurrentPath()).getEnclosingElement() + ".<init>");
        made.computeIfAbsent(method, m -> new ArrayList<>()).add(what);
        return super.visitNewClass(tree, nothing);
    }

    @Override
    public Void visitNewArray(NewArrayTree tree, Void nothing) {
        made.computeIfAbsent(method, m -> new ArrayList<>()).add(tree.getType() + "[]");
        return super.visitNewArray(tree, nothing);
    }

    /** The longest chain of calls from a method down in which none comes twice. */
    List<String> longestFrom(String from, Set<String> above) {
        List<String> longest = new ArrayList<>();
        Set<String> open = new TreeSet<>(above);
        open.add(from);
        for (String callee : calls.getOrDefault(from, Set.of())) {
            if (!open.contains(callee)) {
                List<String> chain = longestFrom(callee, open);
                longest = chain.size() > longest.size() ? chain : longest;
            }
        }
        longest.add(0, from);
        return longest;
    }
}
