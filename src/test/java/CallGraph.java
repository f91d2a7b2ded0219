import com.sun.source.tree.CompilationUnitTree;
import com.sun.source.tree.MethodInvocationTree;
import com.sun.source.tree.MethodTree;
import com.sun.source.tree.NewArrayTree;
import com.sun.source.tree.NewClassTree;
import com.sun.source.tree.VariableTree;
import com.sun.source.util.JavacTask;
import com.sun.source.util.TreePathScanner;
import com.sun.source.util.Trees;
import java.io.IOException;
import java.nio.file.Path;
import java.util.HashMap;
import java.util.HashSet;
import java.util.List;
import java.util.Map;
import java.util.Set;
import java.util.TreeMap;
import java.util.TreeSet;
import javax.lang.model.element.Element;
import javax.tools.JavaCompiler;
import javax.tools.StandardJavaFileManager;
import javax.tools.ToolProvider;

/** Which method of a source file calls which, by the compiler's own reading of it. */
final class CallGraph extends TreePathScanner<Void, Void> {

    private static final String MAKES = "<init>";

    private final Trees trees;
    private final Map<String, Set<String>> calls = new TreeMap<>();
    private final Set<String> makers = new TreeSet<>();
    private final Map<String, Set<String>> reached = new HashMap<>();
    private final Map<String, Integer> depths = new HashMap<>();
    private String caller = "";

    private CallGraph(Trees trees) {
        this.trees = trees;
    }

    static CallGraph of(Path source) throws IOException {
        JavaCompiler compiler = ToolProvider.getSystemJavaCompiler();
        try (StandardJavaFileManager files = compiler.getStandardFileManager(null, null, null)) {
            JavacTask task = (JavacTask) compiler.getTask(null, files, null, List.of("-proc:none"), null,
                files.getJavaFileObjects(source));
            Iterable<? extends CompilationUnitTree> units = task.parse();
            task.analyze();
            CallGraph graph = new CallGraph(Trees.instance(task));
            graph.scan(units, null);
            return graph;
        }
    }

    Set<String> methods() {
        return calls.keySet();
    }

    /** Methods that are called and don't stand in the source. */
    Set<String> library() {
        Set<String> found = new TreeSet<>();
        for (Set<String> called : calls.values()) {
            found.addAll(called);
        }
        found.removeAll(calls.keySet());
        return found;
    }

    /** Methods that make an object or an array. */
    Set<String> makers() {
        return makers;
    }

    /** The methods that a method calls and that call it, itself among them. */
    Set<String> cycle(String method) {
        Set<String> found = new TreeSet<>(Set.of(method));
        for (String other : reachedFrom(method)) {
            if (reachedFrom(other).contains(method)) {
                found.add(other);
            }
        }
        return found;
    }

    /** The longest row of calls from a method, itself counted; a cycle counts as one call. */
    int depth(String method) {
        Integer known = depths.get(method);
        if (known != null) {
            return known;
        }
        Set<String> cycle = cycle(method);
        int deepest = 0;
        for (String member : cycle) {
            for (String called : calls.get(member)) {
                if (calls.containsKey(called) && !cycle.contains(called)) {
                    deepest = Math.max(deepest, depth(called));
                }
            }
        }
        depths.put(method, deepest + 1);
        return deepest + 1;
    }

    private Set<String> reachedFrom(String method) {
        Set<String> known = reached.get(method);
        if (known != null) {
            return known;
        }
        Set<String> found = new HashSet<>();
        collect(method, found);
        reached.put(method, found);
        return found;
    }

    private void collect(String method, Set<String> found) {
        for (String called : calls.getOrDefault(method, Set.of())) {
            if (calls.containsKey(called) && found.add(called)) {
                collect(called, found);
            }
        }
    }

    @Override
    public Void visitMethod(MethodTree method, Void nothing) {
        caller = nameOf(trees.getElement(getCurrentPath()));
        calls.putIfAbsent(caller, new TreeSet<>());
        super.visitMethod(method, nothing);
        caller = "";
        return null;
    }

    /** What a field is given when it is declared is worked by the constructor. */
    @Override
    public Void visitVariable(VariableTree variable, Void nothing) {
        if (!caller.isEmpty()) {
            return super.visitVariable(variable, nothing);
        }
        caller = trees.getElement(getCurrentPath()).getEnclosingElement().getSimpleName() + "." + MAKES;
        super.visitVariable(variable, nothing);
        caller = "";
        return null;
    }

    @Override
    public Void visitMethodInvocation(MethodInvocationTree call, Void nothing) {
        note(trees.getElement(getCurrentPath()));
        return super.visitMethodInvocation(call, nothing);
    }

    @Override
    public Void visitNewClass(NewClassTree made, Void nothing) {
        makers.add(caller);
        note(trees.getElement(getCurrentPath()));
        return super.visitNewClass(made, nothing);
    }

    @Override
    public Void visitNewArray(NewArrayTree made, Void nothing) {
        makers.add(caller);
        return super.visitNewArray(made, nothing);
    }

    private void note(Element called) {
        calls.computeIfAbsent(caller, key -> new TreeSet<>()).add(nameOf(called));
    }

    private static String nameOf(Element method) {
        return method.getEnclosingElement().getSimpleName() + "." + method.getSimpleName();
    }
}
