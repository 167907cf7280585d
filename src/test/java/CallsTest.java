import com.sun.source.tree.CompilationUnitTree;
import com.sun.source.tree.MethodInvocationTree;
import com.sun.source.tree.MethodTree;
import com.sun.source.tree.NewClassTree;
import com.sun.source.tree.Tree;
import com.sun.source.util.JavacTask;
import com.sun.source.util.TreePathScanner;
import com.sun.source.util.Trees;
import java.io.File;
import java.io.IOException;
import java.util.ArrayList;
import java.util.HashMap;
import java.util.List;
import java.util.Map;
import java.util.Set;
import java.util.TreeMap;
import java.util.TreeSet;
import javax.lang.model.element.Element;
import javax.lang.model.element.ExecutableElement;
import javax.tools.JavaCompiler;
import javax.tools.StandardJavaFileManager;
import javax.tools.ToolProvider;

/** Rules 8 and 11 of ../shared/LANGUAGE.md: calls go eight deep at most, and only the grammar is recursive. */
public final class CallsTest {
    private static final String SOURCE = "src/main/java/HollowedByFire.java";
    private static final int DEEP_MOST = 8;
    private static final Set<String> GRAMMAR = new TreeSet<>(Set.of("Tape.readEither()", "Tape.readBoth()",
        "Tape.readNot()", "Tape.readSum()", "Tape.readTerm()", "Tape.readOne()"));

    private final Map<String, Set<String>> calls = new TreeMap<>();
    private final Map<String, Set<String>> reached = new HashMap<>();
    private final Map<String, Integer> depths = new HashMap<>();
    private final Map<String, String> nexts = new HashMap<>();

    // ---- who calls whom

    private static String name(Element e) {
        return e.getEnclosingElement().getSimpleName() + "." + e;
    }

    private void read() throws IOException {
        JavaCompiler compiler = ToolProvider.getSystemJavaCompiler();
        try (StandardJavaFileManager files = compiler.getStandardFileManager(null, null, null)) {
            JavacTask task = (JavacTask) compiler.getTask(null, files, null, null, null,
                files.getJavaFileObjects(new File(SOURCE)));
            Iterable<? extends CompilationUnitTree> units = task.parse();
            task.analyze();
            Trees trees = Trees.instance(task);
            for (CompilationUnitTree unit : units) {
                new Reader(trees).scan(unit, null);
            }
        }
        for (Set<String> called : calls.values()) {
            // what is left is the library's
            called.retainAll(calls.keySet());
        }
    }

    private final class Reader extends TreePathScanner<Void, Void> {
        private final Trees trees;
        private String caller = null;

        Reader(Trees trees) {
            this.trees = trees;
        }

        private void called(Tree tree) {
            Element e = trees.getElement(trees.getPath(getCurrentPath().getCompilationUnit(), tree));
            if (caller != null && e instanceof ExecutableElement) {
                calls.get(caller).add(name(e));
            }
        }

        @Override
        public Void visitMethod(MethodTree method, Void unused) {
            caller = name(trees.getElement(getCurrentPath()));
            calls.put(caller, new TreeSet<>());
            super.visitMethod(method, unused);
            caller = null;
            return null;
        }

        @Override
        public Void visitMethodInvocation(MethodInvocationTree call, Void unused) {
            called(call);
            return super.visitMethodInvocation(call, unused);
        }

        @Override
        public Void visitNewClass(NewClassTree made, Void unused) {
            called(made);
            return super.visitNewClass(made, unused);
        }
    }

    // ---- how deep

    private Set<String> reachedFrom(String method) {
        Set<String> all = reached.get(method);
        if (all == null) {
            all = new TreeSet<>();
            reached.put(method, all);
            List<String> open = new ArrayList<>(calls.get(method));
            while (!open.isEmpty()) {
                String next = open.remove(open.size() - 1);
                if (all.add(next)) {
                    open.addAll(calls.get(next));
                }
            }
        }
        return all;
    }

    /** All methods that call one another count as one, since recursion has a guard of its own. */
    private Set<String> ring(String method) {
        Set<String> all = new TreeSet<>(Set.of(method));
        for (String other : reachedFrom(method)) {
            if (reachedFrom(other).contains(method)) {
                all.add(other);
            }
        }
        return all;
    }

    private int depth(String method) {
        if (depths.containsKey(method)) {
            return depths.get(method);
        }
        int deepest = 0;
        Set<String> ring = ring(method);
        for (String one : ring) {
            for (String next : calls.get(one)) {
                if (!ring.contains(next) && depth(next) > deepest) {
                    deepest = depth(next);
                    nexts.put(method, next);
                }
            }
        }
        depths.put(method, deepest + 1);
        return deepest + 1;
    }

    private String chain(String method) {
        StringBuilder all = new StringBuilder(method);
        for (String next = nexts.get(method); next != null; next = nexts.get(next)) {
            all.append(" > ").append(next);
        }
        return all.toString();
    }

    private void look(Check check) {
        check.isTrue("methods were found", calls.size() > 100);
        check.isTrue("calls were found", reachedFrom("HollowedByFire.hull(int,int,int)").contains("Hull.inch()"));
        Set<String> recursive = new TreeSet<>();
        for (String method : calls.keySet()) {
            int depth = depth(method);
            check.isTrue("rule 11: " + depth + " deep: " + chain(method), depth <= DEEP_MOST);
            if (reachedFrom(method).contains(method)) {
                recursive.add(method);
            }
        }
        check.isTrue("rule 8: recursive are " + recursive, recursive.equals(GRAMMAR));
    }

    public static void main(String[] args) throws IOException {
        Check check = new Check("CallsTest");
        CallsTest test = new CallsTest();
        test.read();
        test.look(check);
        check.end();
    }
}
