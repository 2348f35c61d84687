import com.sun.source.tree.CompilationUnitTree;
import com.sun.source.tree.MethodInvocationTree;
import com.sun.source.tree.MethodTree;
import com.sun.source.tree.NewClassTree;
import com.sun.source.tree.VariableTree;
import com.sun.source.util.JavacTask;
import com.sun.source.util.TreePath;
import com.sun.source.util.TreePathScanner;
import com.sun.source.util.Trees;
import java.io.IOException;
import java.nio.file.Path;
import java.util.ArrayList;
import java.util.LinkedHashMap;
import java.util.LinkedHashSet;
import java.util.List;
import java.util.Map;
import java.util.Set;
import java.util.stream.Collectors;
import javax.lang.model.element.Element;
import javax.lang.model.element.ElementKind;
import javax.tools.JavaCompiler;
import javax.tools.StandardJavaFileManager;
import javax.tools.ToolProvider;

/**
 * Who calls whom in the class, as the compiler understands it: rule 4 of LANGUAGE.md (the library), rules 8 and 11
 * (no recursion, calls at most eight deep), rule 12 (objects come from constructors) and rule 6 (where may be thrown).
 */
public final class CallsTest {
    private static final Path SOURCE = Path.of("src/main/java/StrandLoaves.java");
    private static final int DEEPEST = 8;

    private static final Set<String> LIBRARY = Set.of("java.lang.Math.min", "java.lang.Math.floorMod",
            "java.lang.System.arraycopy", "java.lang.Object.<init>");
    private static final Set<String> EXCEPTIONS = Set.of("java.lang.IllegalStateException",
            "java.lang.IllegalArgumentException", "java.lang.IndexOutOfBoundsException");

    private static final Map<Element, Set<Element>> calls = new LinkedHashMap<>();
    private static final Map<Element, Integer> depths = new LinkedHashMap<>();

    private CallsTest() {
    }

    public static void main(String[] args) throws IOException {
        JavaCompiler compiler = ToolProvider.getSystemJavaCompiler();
        try (StandardJavaFileManager files = compiler.getStandardFileManager(null, null, null)) {
            JavacTask task = (JavacTask) compiler.getTask(null, files, null, List.of("-proc:none"), null,
                    files.getJavaFileObjects(SOURCE));
            List<CompilationUnitTree> units = new ArrayList<>();
            task.parse().forEach(units::add);
            task.analyze();
            Trees trees = Trees.instance(task);
            for (CompilationUnitTree unit : units) {
                new Calls(trees).scan(unit, null);
            }
        }
        int deepest = 0;
        for (Element caller : List.copyOf(calls.keySet())) {
            deepest = Math.max(deepest, depth(caller, new LinkedHashSet<>()));
        }
        System.out.println("calls go at most " + deepest + " deep");
        Checks.good("calls go at most 8 deep (they go " + deepest + ")", deepest <= DEEPEST);
        Checks.good("the calls of the face are found", deepest > 1 && calls.size() > 26);
        Checks.end("CallsTest");
    }

    private static final class Calls extends TreePathScanner<Void, Void> {
        private final Trees trees;
        // The method, or the class where a field is given its value.
        private Element caller = null;

        Calls(Trees trees) {
            this.trees = trees;
        }

        @Override
        public Void visitMethod(MethodTree node, Void none) {
            Element before = caller;
            caller = trees.getElement(getCurrentPath());
            callsOf(caller);
            if (caller.getKind() == ElementKind.CONSTRUCTOR) {
                callsOf(caller).add(caller.getEnclosingElement());
            }
            super.visitMethod(node, none);
            caller = before;
            return null;
        }

        @Override
        public Void visitVariable(VariableTree node, Void none) {
            Element variable = trees.getElement(getCurrentPath());
            Element before = caller;
            if (variable.getKind() == ElementKind.FIELD) {
                caller = variable.getEnclosingElement();
            }
            super.visitVariable(node, none);
            caller = before;
            return null;
        }

        @Override
        public Void visitMethodInvocation(MethodInvocationTree node, Void none) {
            add(trees.getElement(new TreePath(getCurrentPath(), node.getMethodSelect())));
            return super.visitMethodInvocation(node, none);
        }

        @Override
        public Void visitNewClass(NewClassTree node, Void none) {
            Element made = trees.getElement(getCurrentPath());
            boolean isException = EXCEPTIONS.contains(made.getEnclosingElement().toString());
            boolean isByConstructor = caller.getKind() != ElementKind.METHOD;
            Checks.good(told(made) + " is made by a constructor, or is an exception that is thrown by "
                    + told(caller), isException != isByConstructor);
            if (!isException) {
                add(made);
            }
            return super.visitNewClass(node, none);
        }

        private void add(Element called) {
            callsOf(caller).add(called);
            String name = called.getEnclosingElement() + "." + called.getSimpleName();
            Checks.good(told(caller) + " calls what is of the file or of LANGUAGE.md: " + name,
                    isOwn(called) || LIBRARY.contains(name));
        }
    }

    private static Set<Element> callsOf(Element caller) {
        return calls.computeIfAbsent(caller, c -> new LinkedHashSet<>());
    }

    private static boolean isOwn(Element called) {
        return called.getEnclosingElement().toString().startsWith("StrandLoaves");
    }

    private static String told(Element element) {
        return element.getEnclosingElement().getSimpleName() + "." + element;
    }

    /** How many calls stand open at the most, this one with them; a field's value is no call of its own. */
    private static int depth(Element caller, Set<Element> open) {
        if (depths.containsKey(caller)) {
            return depths.get(caller);
        }
        boolean isNew = open.add(caller);
        Checks.good("no call comes back to itself: "
                + open.stream().map(CallsTest::told).collect(Collectors.joining(" ")), isNew);
        int below = 0;
        if (isNew) {
            for (Element called : calls.getOrDefault(caller, Set.of())) {
                below = Math.max(below, depth(called, open));
            }
            open.remove(caller);
        }
        int depth = caller.getKind().isClass() ? below : below + 1;
        depths.put(caller, depth);
        return depth;
    }
}
