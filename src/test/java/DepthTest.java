import com.sun.source.tree.CompilationUnitTree;
import com.sun.source.tree.MethodInvocationTree;
import com.sun.source.tree.MethodTree;
import com.sun.source.tree.NewClassTree;
import com.sun.source.util.JavacTask;
import com.sun.source.util.TreePathScanner;
import com.sun.source.util.Trees;
import java.io.IOException;
import java.nio.file.Path;
import java.util.ArrayList;
import java.util.List;
import java.util.Map;
import java.util.Set;
import java.util.TreeMap;
import java.util.TreeSet;
import javax.lang.model.element.Element;
import javax.tools.JavaCompiler;
import javax.tools.StandardJavaFileManager;
import javax.tools.ToolProvider;

/** Rules 8 and 11 of LANGUAGE.md: how deep the class's own methods call one another, and which call themselves. */
public final class DepthTest {
    private static final int MOST = 8;
    /** Brackets and not stand within one another; their depth is an argument. */
    private static final Set<String> RECURSIVE = Set.of("NameNotes.Sentence.readCond", "NameNotes.Sentence.readOne");

    private final Map<String, Set<String>> calls = new TreeMap<>();
    private List<String> deepest = new ArrayList<>();

    private DepthTest() {
    }

    public static void main(String[] args) throws IOException {
        if (ToolProvider.getSystemJavaCompiler() == null) {
            System.out.println("this java has no compiler in it: the depth was not reckoned");
            return;
        }
        DepthTest test = new DepthTest();
        test.read(Path.of("src/main/java/NameNotes.java"));
        for (String method : test.calls.keySet()) {
            test.go(method, new ArrayList<>());
        }
        Check.due("methods that were read", test.calls.size() > 150, true);
        Check.due("calls open at once: " + String.join(" > ", test.deepest), test.deepest.size() <= MOST, true);
        Check.end();
    }

    private void read(Path source) throws IOException {
        JavaCompiler compiler = ToolProvider.getSystemJavaCompiler();
        try (StandardJavaFileManager files = compiler.getStandardFileManager(null, null, null)) {
            JavacTask task = (JavacTask) compiler.getTask(null, files, null, List.of("-proc:none"), null,
                    files.getJavaFileObjects(source));
            Caller caller = new Caller(Trees.instance(task));
            for (CompilationUnitTree unit : task.parse()) {
                caller.units.add(unit);
            }
            task.analyze();
            caller.units.forEach(unit -> caller.scan(unit, null));
        }
    }

    private void go(String method, List<String> open) {
        int first = open.indexOf(method);
        if (first >= 0) {
            Check.due(method + " calls itself", RECURSIVE.containsAll(open.subList(first, open.size())), true);
            return;
        }
        open.add(method);
        if (open.size() > deepest.size()) {
            deepest = new ArrayList<>(open);
        }
        calls.getOrDefault(method, Set.of()).forEach(other -> go(other, open));
        open.remove(open.size() - 1);
    }

    /** Notes which method calls which. */
    private final class Caller extends TreePathScanner<Void, Void> {
        final List<CompilationUnitTree> units = new ArrayList<>();
        private final Trees trees;
        private String method = "";

        Caller(Trees trees) {
            this.trees = trees;
        }

        private String name(Element element) {
            return element.getEnclosingElement() + "." + element.getSimpleName();
        }

        private void called(Element element) {
            String name = name(element);
            if (name.startsWith("NameNotes") && !method.isEmpty()) {
                calls.get(method).add(name);
            }
        }

        @Override
        public Void visitMethod(MethodTree tree, Void nothing) {
            method = name(trees.getElement(getCurrentPath()));
            calls.computeIfAbsent(method, any -> new TreeSet<>());
            super.visitMethod(tree, nothing);
            method = "";
            return null;
        }

        @Override
        public Void visitMethodInvocation(MethodInvocationTree tree, Void nothing) {
            called(trees.getElement(getCurrentPath()));
            return super.visitMethodInvocation(tree, nothing);
        }

        @Override
        public Void visitNewClass(NewClassTree tree, Void nothing) {
            called(trees.getElement(getCurrentPath()));
            return super.visitNewClass(tree, nothing);
        }
    }
}
