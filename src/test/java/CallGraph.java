import com.sun.source.tree.ClassTree;
import com.sun.source.tree.MethodInvocationTree;
import com.sun.source.tree.MethodTree;
import com.sun.source.tree.NewArrayTree;
import com.sun.source.tree.NewClassTree;
import com.sun.source.tree.ThrowTree;
import com.sun.source.tree.Tree;
import com.sun.source.util.JavacTask;
import com.sun.source.util.TreePath;
import com.sun.source.util.TreePathScanner;
import com.sun.source.util.Trees;
import java.io.IOException;
import java.nio.file.Path;
import java.util.ArrayList;
import java.util.LinkedHashMap;
import java.util.LinkedHashSet;
import java.util.List;
import java.util.Map;
import java.util.Set;
import javax.lang.model.element.Element;
import javax.lang.model.element.ElementKind;
import javax.lang.model.element.ExecutableElement;
import javax.lang.model.element.TypeElement;
import javax.tools.JavaCompiler;
import javax.tools.StandardJavaFileManager;
import javax.tools.ToolProvider;

/** Which method of a source file calls which, told by the compiler's own reading of it. */
final class CallGraph {
    private final JavacTask task;
    private final Map<ExecutableElement, Set<ExecutableElement>> calls = new LinkedHashMap<>();
    private final Set<ExecutableElement> makers = new LinkedHashSet<>();

    CallGraph(Path source) throws IOException {
        JavaCompiler compiler = ToolProvider.getSystemJavaCompiler();
        StandardJavaFileManager files = compiler.getStandardFileManager(null, null, null);
        task = (JavacTask) compiler.getTask(null, files, null, List.of("--release", "17", "-proc:none"), null, files.getJavaFileObjects(source));
        Reader reader = new Reader(Trees.instance(task));
        for (Tree unit : task.parse()) {
            task.analyze();
            reader.scan(unit, null);
        }
        reader.addInitialisers();
        addOverriding();
    }

    /** The methods and constructors of the source. */
    List<ExecutableElement> own() {
        return new ArrayList<>(calls.keySet());
    }

    ExecutableElement face(String name) {
        for (ExecutableElement method : calls.keySet()) {
            if (told(method).equals("Regionry." + name)) {
                return method;
            }
        }
        throw new AssertionError("the source has no method " + name);
    }

    /** All that a call of it may call, and it itself. */
    Set<ExecutableElement> reached(ExecutableElement method) {
        Set<ExecutableElement> reached = new LinkedHashSet<>(Set.of(method));
        List<ExecutableElement> open = new ArrayList<>(reached);
        while (!open.isEmpty()) {
            for (ExecutableElement called : called(open.remove(open.size() - 1))) {
                if (reached.add(called)) {
                    open.add(called);
                }
            }
        }
        return reached;
    }

    boolean isRecursive(ExecutableElement method) {
        for (ExecutableElement called : called(method)) {
            if (reached(called).contains(method)) {
                return true;
            }
        }
        return false;
    }

    /** How many calls stand open at once, this one and one of the library's among them. */
    int depth(ExecutableElement method) {
        int deepest = 0;
        for (ExecutableElement called : called(method)) {
            deepest = Math.max(deepest, depth(called));
        }
        return 1 + deepest;
    }

    /** Whether it makes an object or an array by its own lines, other than an exception that it throws. */
    boolean isMaker(ExecutableElement method) {
        return makers.contains(method);
    }

    boolean isOwn(ExecutableElement method) {
        return calls.containsKey(method);
    }

    static String told(ExecutableElement method) {
        return ((TypeElement) method.getEnclosingElement()).getQualifiedName() + "." + method.getSimpleName();
    }

    private Set<ExecutableElement> called(ExecutableElement method) {
        return calls.getOrDefault(method, Set.of());
    }

    // A call of a method may be one of any that overrides it.
    private void addOverriding() {
        for (Set<ExecutableElement> called : calls.values()) {
            for (ExecutableElement method : new ArrayList<>(called)) {
                for (ExecutableElement other : calls.keySet()) {
                    TypeElement type = (TypeElement) other.getEnclosingElement();
                    if (task.getElements().overrides(other, method, type) && !isBySuper(called, method, other)) {
                        called.add(other);
                    }
                }
            }
        }
    }

    // super.m() in the overriding m() is that very m above it, not itself again.
    private boolean isBySuper(Set<ExecutableElement> called, ExecutableElement method, ExecutableElement other) {
        return calls.get(other) == called && other.getSimpleName().equals(method.getSimpleName());
    }

    private final class Reader extends TreePathScanner<Void, Void> {
        private final Trees trees;
        // What the fields' initialisers of a class call, each of its constructors calls.
        private final Map<Element, Set<ExecutableElement>> initialisers = new LinkedHashMap<>();
        private final Set<Element> makingInitialisers = new LinkedHashSet<>();
        private ExecutableElement within = null;
        private Element type = null;

        Reader(Trees trees) {
            this.trees = trees;
        }

        @Override
        public Void visitClass(ClassTree tree, Void nothing) {
            Element outer = type;
            ExecutableElement outerWithin = within;
            type = trees.getElement(getCurrentPath());
            within = null;
            super.visitClass(tree, null);
            type = outer;
            within = outerWithin;
            return null;
        }

        @Override
        public Void visitMethod(MethodTree tree, Void nothing) {
            within = (ExecutableElement) trees.getElement(getCurrentPath());
            calls.computeIfAbsent(within, method -> new LinkedHashSet<>());
            super.visitMethod(tree, null);
            within = null;
            return null;
        }

        @Override
        public Void visitMethodInvocation(MethodInvocationTree tree, Void nothing) {
            addCall(trees.getElement(new TreePath(getCurrentPath(), tree.getMethodSelect())));
            return super.visitMethodInvocation(tree, null);
        }

        @Override
        public Void visitNewClass(NewClassTree tree, Void nothing) {
            boolean isThrown = getCurrentPath().getParentPath().getLeaf() instanceof ThrowTree;
            addCall(trees.getElement(getCurrentPath()));
            if (!isThrown) {
                addMaking();
            }
            return super.visitNewClass(tree, null);
        }

        @Override
        public Void visitNewArray(NewArrayTree tree, Void nothing) {
            addMaking();
            return super.visitNewArray(tree, null);
        }

        private void addCall(Element called) {
            if (!(called instanceof ExecutableElement)) {
                throw new AssertionError("a call that the compiler can't tell");
            }
            if (within == null) {
                initialisers.computeIfAbsent(type, key -> new LinkedHashSet<>()).add((ExecutableElement) called);
            } else {
                calls.get(within).add((ExecutableElement) called);
            }
        }

        private void addMaking() {
            if (within == null) {
                makingInitialisers.add(type);
            } else {
                makers.add(within);
            }
        }

        void addInitialisers() {
            for (ExecutableElement method : own()) {
                if (method.getKind() == ElementKind.CONSTRUCTOR) {
                    Element owner = method.getEnclosingElement();
                    calls.get(method).addAll(initialisers.getOrDefault(owner, Set.of()));
                    if (makingInitialisers.contains(owner)) {
                        makers.add(method);
                    }
                }
            }
        }
    }
}
