import com.sun.source.tree.ClassTree;
import com.sun.source.tree.MethodInvocationTree;
import com.sun.source.tree.MethodTree;
import com.sun.source.tree.NewArrayTree;
import com.sun.source.tree.NewClassTree;
import com.sun.source.util.JavacTask;
import com.sun.source.util.TreePathScanner;
import com.sun.source.util.Trees;
import java.io.IOException;
import java.nio.file.Path;
import java.util.HashMap;
import java.util.HashSet;
import java.util.List;
import java.util.Map;
import java.util.Set;
import javax.lang.model.element.Element;
import javax.lang.model.element.ElementKind;
import javax.lang.model.element.Modifier;
import javax.tools.JavaCompiler;
import javax.tools.StandardJavaFileManager;
import javax.tools.ToolProvider;

/** The rules of LANGUAGE.md that the program's calls can tell: 4, 8, 11 and 12. */
public final class CallsTest {

    private static final Path PROGRAM = Path.of("src/main/java/NamePlate.java");
    private static final int DEEPEST = 8;
    private static final int MOST_FIELDS = 20;
    /** Of what rule 4 leaves, no more than the program needs. */
    private static final Set<String> LIBRARY = Set.of("java.lang.Math.max", "java.lang.Math.min", "java.lang.Math.floorDiv",
            "java.lang.Integer.bitCount", "java.lang.System.arraycopy");

    private static final Map<Element, Set<Element>> CALLED_BY = new HashMap<>();
    private static final Map<Element, Integer> DEPTHS = new HashMap<>();

    public static void main(String[] args) throws IOException {
        JavaCompiler compiler = ToolProvider.getSystemJavaCompiler();
        try (StandardJavaFileManager files = compiler.getStandardFileManager(null, null, null)) {
            JavacTask task = (JavacTask) compiler.getTask(null, files, null, List.of("-proc:none"), null,
                    files.getJavaFileObjects(PROGRAM));
            Looker looker = new Looker(Trees.instance(task));
            for (var unit : task.parse()) {
                task.analyze();
                looker.scan(unit, null);
            }
        }
        Check.holds("calls are found", CALLED_BY.size() >= 25);
        for (Element method : CALLED_BY.keySet()) {
            int depth = depthOf(method);
            Check.holds(method + " goes " + depth + " calls deep", depth <= DEEPEST);
        }
        Check.end();
    }

    /** How many calls stand open at most, this one with them; more than is allowed if it calls itself. */
    private static int depthOf(Element method) {
        if (!DEPTHS.containsKey(method)) {
            DEPTHS.put(method, 2 * DEEPEST);
            int deepest = 0;
            for (Element called : CALLED_BY.getOrDefault(method, Set.of())) {
                deepest = Math.max(deepest, depthOf(called));
            }
            DEPTHS.put(method, deepest + 1);
        }
        return DEPTHS.get(method);
    }

    private static final class Looker extends TreePathScanner<Void, Void> {

        private final Trees trees;
        private Element method = null;

        Looker(Trees trees) {
            this.trees = trees;
        }

        @Override
        public Void visitClass(ClassTree tree, Void none) {
            Element type = trees.getElement(getCurrentPath());
            long fields = type.getEnclosedElements().stream()
                    .filter(part -> part.getKind() == ElementKind.FIELD && !part.getModifiers().contains(Modifier.STATIC)).count();
            Check.holds(type + " has " + fields + " fields", fields <= MOST_FIELDS);
            return super.visitClass(tree, none);
        }

        @Override
        public Void visitMethod(MethodTree tree, Void none) {
            method = trees.getElement(getCurrentPath());
            CALLED_BY.put(method, new HashSet<>());
            super.visitMethod(tree, none);
            method = null;
            return null;
        }

        @Override
        public Void visitMethodInvocation(MethodInvocationTree tree, Void none) {
            Element called = trees.getElement(getCurrentPath());
            String type = called.getEnclosingElement().toString();
            if (type.startsWith("NamePlate")) {
                CALLED_BY.get(method).add(called);
            } else if (called.getKind() == ElementKind.METHOD) {
                String name = type + "." + called.getSimpleName();
                Check.holds(name + " is a part of the library that is left", LIBRARY.contains(name));
            }
            return super.visitMethodInvocation(tree, none);
        }

        @Override
        public Void visitNewClass(NewClassTree tree, Void none) {
            dueInConstructor("new " + tree.getIdentifier());
            return super.visitNewClass(tree, none);
        }

        @Override
        public Void visitNewArray(NewArrayTree tree, Void none) {
            dueInConstructor("new " + tree.getType() + "[]");
            return super.visitNewArray(tree, none);
        }

        /** All calls of a run share one room, so that no call makes anything: the constructor does. */
        private void dueInConstructor(String made) {
            Check.holds(made + " stands in a constructor or a field",
                    method == null || method.getKind() == ElementKind.CONSTRUCTOR);
        }
    }
}
