import com.sun.source.tree.ClassTree;
import com.sun.source.tree.CompilationUnitTree;
import com.sun.source.tree.MethodInvocationTree;
import com.sun.source.tree.MethodTree;
import com.sun.source.tree.NewClassTree;
import com.sun.source.tree.VariableTree;
import com.sun.source.util.JavacTask;
import com.sun.source.util.TreePathScanner;
import com.sun.source.util.Trees;
import java.io.File;
import java.io.IOException;
import java.util.ArrayList;
import java.util.LinkedHashMap;
import java.util.LinkedHashSet;
import java.util.List;
import java.util.Map;
import java.util.Set;
import javax.lang.model.element.Element;
import javax.lang.model.element.ElementKind;
import javax.lang.model.element.Modifier;
import javax.tools.JavaCompiler;
import javax.tools.StandardJavaFileManager;
import javax.tools.ToolProvider;

/** Rules 8 and 11 of LANGUAGE.md, as they can be read off the program's tree. */
public final class ShapeTest {
    private static final int MOST_PARAMETERS = 7;
    private static final int MOST_CALLS_DEEP = 8;
    private static final int MOST_CLASSES = 12;
    private static final int MOST_FIELDS = 20;

    /** Who calls whom; a call of the library is the end of a way. */
    private final Map<String, Set<String>> calls = new LinkedHashMap<>();
    private final List<String> face = new ArrayList<>();
    private int classes;

    public static void main(String[] args) throws IOException {
        ShapeTest shape = new ShapeTest();
        shape.read(new File("src/main/java/TaughtRemotes.java"));
        Due.same("true", "" + (shape.classes <= MOST_CLASSES), shape.classes + " classes: few,");
        for (String method : shape.face) {
            List<String> way = shape.deepestFrom(method, new ArrayList<>());
            Due.same("true", "" + (way.size() <= MOST_CALLS_DEEP), way + ": not too deep,");
        }
        Due.end("ShapeTest");
    }

    private void read(File program) throws IOException {
        JavaCompiler compiler = ToolProvider.getSystemJavaCompiler();
        try (StandardJavaFileManager files = compiler.getStandardFileManager(null, null, null)) {
            JavacTask task = (JavacTask) compiler.getTask(null, files, null, List.of("-proc:none"),
                    null, files.getJavaFileObjects(program));
            Iterable<? extends CompilationUnitTree> units = task.parse();
            task.analyze();
            Reader reader = new Reader(Trees.instance(task));
            for (CompilationUnitTree unit : units) {
                reader.scan(unit, null);
            }
        }
    }

    /** The longest way of calls that begins here; one that meets itself ends and is told. */
    private List<String> deepestFrom(String method, List<String> standing) {
        Due.same("false", "" + standing.contains(method), method + " calls itself,");
        List<String> deepest = List.of();
        if (!standing.contains(method)) {
            standing.add(method);
            for (String called : calls.getOrDefault(method, Set.of())) {
                List<String> way = deepestFrom(called, standing);
                deepest = way.size() > deepest.size() ? way : deepest;
            }
            standing.remove(method);
        }
        List<String> whole = new ArrayList<>(List.of(method));
        whole.addAll(deepest);
        return whole;
    }

    private final class Reader extends TreePathScanner<Void, Void> {
        private final Trees trees;
        // Where the calls stand that are read just now; the values of fields stand in "new".
        private String standing = "";

        Reader(Trees trees) {
            this.trees = trees;
        }

        private String named(Element method) {
            String name = method.getKind() == ElementKind.CONSTRUCTOR ? "new" : method.toString();
            return method.getEnclosingElement().getSimpleName() + "." + name;
        }

        private void calls(Element called) {
            boolean ofObject = called == null
                    || called.getEnclosingElement().toString().equals("java.lang.Object");
            if (!ofObject) {
                calls.computeIfAbsent(standing, s -> new LinkedHashSet<>()).add(named(called));
            }
        }

        @Override
        public Void visitClass(ClassTree tree, Void none) {
            classes++;
            String before = standing;
            standing = tree.getSimpleName() + ".new";
            long fields = tree.getMembers().stream().filter(m -> m instanceof VariableTree v
                    && !v.getModifiers().getFlags().contains(Modifier.STATIC)).count();
            Due.same("true", "" + (fields <= MOST_FIELDS), tree.getSimpleName() + ": few fields,");
            super.visitClass(tree, none);
            standing = before;
            return null;
        }

        @Override
        public Void visitMethod(MethodTree tree, Void none) {
            String before = standing;
            Element method = trees.getElement(getCurrentPath());
            standing = named(method);
            if (method.getModifiers().contains(Modifier.PUBLIC)) {
                face.add(standing);
            }
            Due.same("true", "" + (tree.getParameters().size() <= MOST_PARAMETERS),
                    standing + ": few parameters,");
            super.visitMethod(tree, none);
            standing = before;
            return null;
        }

        @Override
        public Void visitMethodInvocation(MethodInvocationTree tree, Void none) {
            calls(trees.getElement(getCurrentPath()));
            return super.visitMethodInvocation(tree, none);
        }

        @Override
        public Void visitNewClass(NewClassTree tree, Void none) {
            calls(trees.getElement(getCurrentPath()));
            return super.visitNewClass(tree, none);
        }
    }
}
